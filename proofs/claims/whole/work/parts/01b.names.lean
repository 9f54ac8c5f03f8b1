set_option maxRecDepth 20000 in
theorem ggX0_init_X0_startAnew : GoodIn wsX0_init wsX0_startAnew := goodIn_r _ [17, 18, 19, 20, 21, 22, 23, 24, 25, 26, 27, 28, 29, 30, 31, 32, 33, 34, 35, 36, 37, 38] (by decide +kernel) (by decide +kernel)
set_option maxRecDepth 20000 in
theorem gX0_init_X0_startAnew : GoodIn wsX0_init (wsV RX0 34 RX0 yX0_startAnew wsX0_startAnew) := goodIn_app (goodIn_of _ (by decide +kernel)) ggX0_init_X0_startAnew
theorem dX0_init_0 : decode cX0_init 0 = .ok (.aload_n 0, 1) := by decide +kernel
theorem dX0_init_1 : decode cX0_init 1 = .ok (.invokespecial 3, 3) := by decide +kernel
theorem dX0_init_4 : decode cX0_init 4 = .ok (.aload_n 0, 1) := by decide +kernel
theorem dX0_init_5 : decode cX0_init 5 = .ok (.bipush 6, 2) := by decide +kernel
theorem dX0_init_7 : decode cX0_init 7 = .ok (.newarray .int, 2) := by decide +kernel
theorem dX0_init_9 : decode cX0_init 9 = .ok (.putfield 9, 3) := by decide +kernel
theorem dX0_init_12 : decode cX0_init 12 = .ok (.aload_n 0, 1) := by decide +kernel
theorem dX0_init_13 : decode cX0_init 13 = .ok (.bipush 6, 2) := by decide +kernel
theorem dX0_init_15 : decode cX0_init 15 = .ok (.newarray .int, 2) := by decide +kernel
theorem dX0_init_17 : decode cX0_init 17 = .ok (.putfield 15, 3) := by decide +kernel
theorem dX0_init_20 : decode cX0_init 20 = .ok (.aload_n 0, 1) := by decide +kernel
theorem dX0_init_21 : decode cX0_init 21 = .ok (.bipush 6, 2) := by decide +kernel
theorem dX0_init_23 : decode cX0_init 23 = .ok (.newarray .int, 2) := by decide +kernel
theorem dX0_init_25 : decode cX0_init 25 = .ok (.putfield 18, 3) := by decide +kernel
theorem dX0_init_28 : decode cX0_init 28 = .ok (.aload_n 0, 1) := by decide +kernel
theorem dX0_init_29 : decode cX0_init 29 = .ok (.bipush 6, 2) := by decide +kernel
theorem dX0_init_31 : decode cX0_init 31 = .ok (.newarray .boolean, 2) := by decide +kernel
theorem dX0_init_33 : decode cX0_init 33 = .ok (.putfield 21, 3) := by decide +kernel
theorem dX0_init_36 : decode cX0_init 36 = .ok (.aload_n 0, 1) := by decide +kernel
theorem dX0_init_37 : decode cX0_init 37 = .ok (.bipush 6, 2) := by decide +kernel
theorem dX0_init_39 : decode cX0_init 39 = .ok (.newarray .boolean, 2) := by decide +kernel
theorem dX0_init_41 : decode cX0_init 41 = .ok (.putfield 25, 3) := by decide +kernel
theorem dX0_init_44 : decode cX0_init 44 = .ok (.aload_n 0, 1) := by decide +kernel
theorem dX0_init_45 : decode cX0_init 45 = .ok (.bipush 7, 2) := by decide +kernel
theorem dX0_init_47 : decode cX0_init 47 = .ok (.newarray .int, 2) := by decide +kernel
theorem dX0_init_49 : decode cX0_init 49 = .ok (.putfield 28, 3) := by decide +kernel
theorem dX0_init_52 : decode cX0_init 52 = .ok (.aload_n 0, 1) := by decide +kernel
theorem dX0_init_53 : decode cX0_init 53 = .ok (.bipush 7, 2) := by decide +kernel
theorem dX0_init_55 : decode cX0_init 55 = .ok (.newarray .int, 2) := by decide +kernel
theorem dX0_init_57 : decode cX0_init 57 = .ok (.putfield 31, 3) := by decide +kernel
theorem dX0_init_60 : decode cX0_init 60 = .ok (.aload_n 0, 1) := by decide +kernel
theorem dX0_init_61 : decode cX0_init 61 = .ok (.invokevirtual 34, 3) := by decide +kernel
theorem dX0_init_64 : decode cX0_init 64 = .ok (.return_, 1) := by decide +kernel
theorem dX0_startAnew_0 : decode cX0_startAnew 0 = .ok (.aload_n 0, 1) := by decide +kernel
theorem dX0_startAnew_1 : decode cX0_startAnew 1 = .ok (.iconst 3, 1) := by decide +kernel
theorem dX0_startAnew_2 : decode cX0_startAnew 2 = .ok (.putfield 37, 3) := by decide +kernel
theorem dX0_startAnew_5 : decode cX0_startAnew 5 = .ok (.aload_n 0, 1) := by decide +kernel
theorem dX0_startAnew_6 : decode cX0_startAnew 6 = .ok (.iconst 3, 1) := by decide +kernel
theorem dX0_startAnew_7 : decode cX0_startAnew 7 = .ok (.putfield 41, 3) := by decide +kernel
theorem dX0_startAnew_10 : decode cX0_startAnew 10 = .ok (.aload_n 0, 1) := by decide +kernel
theorem dX0_startAnew_11 : decode cX0_startAnew 11 = .ok (.iconst 0, 1) := by decide +kernel
theorem dX0_startAnew_12 : decode cX0_startAnew 12 = .ok (.putfield 44, 3) := by decide +kernel
theorem dX0_startAnew_15 : decode cX0_startAnew 15 = .ok (.aload_n 0, 1) := by decide +kernel
theorem dX0_startAnew_16 : decode cX0_startAnew 16 = .ok (.iconst 0, 1) := by decide +kernel
theorem dX0_startAnew_17 : decode cX0_startAnew 17 = .ok (.putfield 47, 3) := by decide +kernel
theorem dX0_startAnew_20 : decode cX0_startAnew 20 = .ok (.aload_n 0, 1) := by decide +kernel
theorem dX0_startAnew_21 : decode cX0_startAnew 21 = .ok (.iconst 3, 1) := by decide +kernel
theorem dX0_startAnew_22 : decode cX0_startAnew 22 = .ok (.putfield 50, 3) := by decide +kernel
theorem dX0_startAnew_25 : decode cX0_startAnew 25 = .ok (.aload_n 0, 1) := by decide +kernel
theorem dX0_startAnew_26 : decode cX0_startAnew 26 = .ok (.iconst 0, 1) := by decide +kernel
theorem dX0_startAnew_27 : decode cX0_startAnew 27 = .ok (.putfield 53, 3) := by decide +kernel
theorem dX0_startAnew_30 : decode cX0_startAnew 30 = .ok (.aload_n 0, 1) := by decide +kernel
theorem dX0_startAnew_31 : decode cX0_startAnew 31 = .ok (.iconst 0, 1) := by decide +kernel
theorem dX0_startAnew_32 : decode cX0_startAnew 32 = .ok (.putfield 56, 3) := by decide +kernel
theorem dX0_startAnew_35 : decode cX0_startAnew 35 = .ok (.return_, 1) := by decide +kernel
theorem dX0_become_0 : decode cX0_become 0 = .ok (.aload_n 0, 1) := by decide +kernel
theorem dX0_become_1 : decode cX0_become 1 = .ok (.aload_n 1, 1) := by decide +kernel
theorem dX0_become_2 : decode cX0_become 2 = .ok (.getfield 37, 3) := by decide +kernel
theorem dX0_become_5 : decode cX0_become 5 = .ok (.putfield 37, 3) := by decide +kernel
theorem dX0_become_8 : decode cX0_become 8 = .ok (.aload_n 0, 1) := by decide +kernel
theorem dX0_become_9 : decode cX0_become 9 = .ok (.aload_n 1, 1) := by decide +kernel
theorem dX0_become_10 : decode cX0_become 10 = .ok (.getfield 41, 3) := by decide +kernel
theorem dX0_become_13 : decode cX0_become 13 = .ok (.putfield 41, 3) := by decide +kernel
theorem dX0_become_16 : decode cX0_become 16 = .ok (.aload_n 0, 1) := by decide +kernel
theorem dX0_become_17 : decode cX0_become 17 = .ok (.aload_n 1, 1) := by decide +kernel
theorem dX0_become_18 : decode cX0_become 18 = .ok (.getfield 44, 3) := by decide +kernel
theorem dX0_become_21 : decode cX0_become 21 = .ok (.putfield 44, 3) := by decide +kernel
theorem dX0_become_24 : decode cX0_become 24 = .ok (.aload_n 0, 1) := by decide +kernel
theorem dX0_become_25 : decode cX0_become 25 = .ok (.aload_n 1, 1) := by decide +kernel
theorem dX0_become_26 : decode cX0_become 26 = .ok (.getfield 47, 3) := by decide +kernel
theorem dX0_become_29 : decode cX0_become 29 = .ok (.putfield 47, 3) := by decide +kernel
theorem dX0_become_32 : decode cX0_become 32 = .ok (.aload_n 0, 1) := by decide +kernel
theorem dX0_become_33 : decode cX0_become 33 = .ok (.aload_n 1, 1) := by decide +kernel
theorem dX0_become_34 : decode cX0_become 34 = .ok (.getfield 50, 3) := by decide +kernel
theorem dX0_become_37 : decode cX0_become 37 = .ok (.putfield 50, 3) := by decide +kernel
theorem dX0_become_40 : decode cX0_become 40 = .ok (.aload_n 0, 1) := by decide +kernel
theorem dX0_become_41 : decode cX0_become 41 = .ok (.aload_n 1, 1) := by decide +kernel
theorem dX0_become_42 : decode cX0_become 42 = .ok (.getfield 53, 3) := by decide +kernel
theorem dX0_become_45 : decode cX0_become 45 = .ok (.putfield 53, 3) := by decide +kernel
theorem dX0_become_48 : decode cX0_become 48 = .ok (.aload_n 0, 1) := by decide +kernel
theorem dX0_become_49 : decode cX0_become 49 = .ok (.aload_n 1, 1) := by decide +kernel
theorem dX0_become_50 : decode cX0_become 50 = .ok (.getfield 56, 3) := by decide +kernel
theorem dX0_become_53 : decode cX0_become 53 = .ok (.putfield 56, 3) := by decide +kernel
theorem dX0_become_56 : decode cX0_become 56 = .ok (.iconst 0, 1) := by decide +kernel
theorem dX0_become_57 : decode cX0_become 57 = .ok (.istore_n 2, 1) := by decide +kernel
theorem dX0_become_58 : decode cX0_become 58 = .ok (.iload_n 2, 1) := by decide +kernel
theorem dX0_become_59 : decode cX0_become 59 = .ok (.iconst 5, 1) := by decide +kernel
theorem dX0_become_60 : decode cX0_become 60 = .ok (.if_icmp .gt 69, 3) := by decide +kernel
theorem dX0_become_63 : decode cX0_become 63 = .ok (.aload_n 0, 1) := by decide +kernel
theorem dX0_become_64 : decode cX0_become 64 = .ok (.getfield 9, 3) := by decide +kernel
theorem dX0_become_67 : decode cX0_become 67 = .ok (.iload_n 2, 1) := by decide +kernel
theorem dX0_become_68 : decode cX0_become 68 = .ok (.aload_n 1, 1) := by decide +kernel
theorem dX0_become_69 : decode cX0_become 69 = .ok (.getfield 9, 3) := by decide +kernel
theorem dX0_become_72 : decode cX0_become 72 = .ok (.iload_n 2, 1) := by decide +kernel
theorem dX0_become_73 : decode cX0_become 73 = .ok (.iaload, 1) := by decide +kernel
theorem dX0_become_74 : decode cX0_become 74 = .ok (.iastore, 1) := by decide +kernel
theorem dX0_become_75 : decode cX0_become 75 = .ok (.aload_n 0, 1) := by decide +kernel
theorem dX0_become_76 : decode cX0_become 76 = .ok (.getfield 15, 3) := by decide +kernel
theorem dX0_become_79 : decode cX0_become 79 = .ok (.iload_n 2, 1) := by decide +kernel
theorem dX0_become_80 : decode cX0_become 80 = .ok (.aload_n 1, 1) := by decide +kernel
theorem dX0_become_81 : decode cX0_become 81 = .ok (.getfield 15, 3) := by decide +kernel
theorem dX0_become_84 : decode cX0_become 84 = .ok (.iload_n 2, 1) := by decide +kernel
theorem dX0_become_85 : decode cX0_become 85 = .ok (.iaload, 1) := by decide +kernel
theorem dX0_become_86 : decode cX0_become 86 = .ok (.iastore, 1) := by decide +kernel
theorem dX0_become_87 : decode cX0_become 87 = .ok (.aload_n 0, 1) := by decide +kernel
theorem dX0_become_88 : decode cX0_become 88 = .ok (.getfield 18, 3) := by decide +kernel
theorem dX0_become_91 : decode cX0_become 91 = .ok (.iload_n 2, 1) := by decide +kernel
theorem dX0_become_92 : decode cX0_become 92 = .ok (.aload_n 1, 1) := by decide +kernel
theorem dX0_become_93 : decode cX0_become 93 = .ok (.getfield 18, 3) := by decide +kernel
theorem dX0_become_96 : decode cX0_become 96 = .ok (.iload_n 2, 1) := by decide +kernel
theorem dX0_become_97 : decode cX0_become 97 = .ok (.iaload, 1) := by decide +kernel
theorem dX0_become_98 : decode cX0_become 98 = .ok (.iastore, 1) := by decide +kernel
theorem dX0_become_99 : decode cX0_become 99 = .ok (.aload_n 0, 1) := by decide +kernel
theorem dX0_become_100 : decode cX0_become 100 = .ok (.getfield 21, 3) := by decide +kernel
theorem dX0_become_103 : decode cX0_become 103 = .ok (.iload_n 2, 1) := by decide +kernel
theorem dX0_become_104 : decode cX0_become 104 = .ok (.aload_n 1, 1) := by decide +kernel
theorem dX0_become_105 : decode cX0_become 105 = .ok (.getfield 21, 3) := by decide +kernel
theorem dX0_become_108 : decode cX0_become 108 = .ok (.iload_n 2, 1) := by decide +kernel
theorem dX0_become_109 : decode cX0_become 109 = .ok (.baload, 1) := by decide +kernel
theorem dX0_become_110 : decode cX0_become 110 = .ok (.bastore, 1) := by decide +kernel
theorem dX0_become_111 : decode cX0_become 111 = .ok (.aload_n 0, 1) := by decide +kernel
theorem dX0_become_112 : decode cX0_become 112 = .ok (.getfield 25, 3) := by decide +kernel
theorem dX0_become_115 : decode cX0_become 115 = .ok (.iload_n 2, 1) := by decide +kernel
theorem dX0_become_116 : decode cX0_become 116 = .ok (.aload_n 1, 1) := by decide +kernel
theorem dX0_become_117 : decode cX0_become 117 = .ok (.getfield 25, 3) := by decide +kernel
theorem dX0_become_120 : decode cX0_become 120 = .ok (.iload_n 2, 1) := by decide +kernel
theorem dX0_become_121 : decode cX0_become 121 = .ok (.baload, 1) := by decide +kernel
theorem dX0_become_122 : decode cX0_become 122 = .ok (.bastore, 1) := by decide +kernel
theorem dX0_become_123 : decode cX0_become 123 = .ok (.iinc 2 1, 3) := by decide +kernel
theorem dX0_become_126 : decode cX0_become 126 = .ok (.goto (-68), 3) := by decide +kernel
theorem dX0_become_129 : decode cX0_become 129 = .ok (.iconst 0, 1) := by decide +kernel
theorem dX0_become_130 : decode cX0_become 130 = .ok (.istore_n 2, 1) := by decide +kernel
theorem dX0_become_131 : decode cX0_become 131 = .ok (.iload_n 2, 1) := by decide +kernel
theorem dX0_become_132 : decode cX0_become 132 = .ok (.bipush 7, 2) := by decide +kernel
theorem dX0_become_134 : decode cX0_become 134 = .ok (.if_icmp .ge 33, 3) := by decide +kernel
theorem dX0_become_137 : decode cX0_become 137 = .ok (.aload_n 0, 1) := by decide +kernel
theorem dX0_become_138 : decode cX0_become 138 = .ok (.getfield 28, 3) := by decide +kernel
theorem dX0_become_141 : decode cX0_become 141 = .ok (.iload_n 2, 1) := by decide +kernel
theorem dX0_become_142 : decode cX0_become 142 = .ok (.aload_n 1, 1) := by decide +kernel
theorem dX0_become_143 : decode cX0_become 143 = .ok (.getfield 28, 3) := by decide +kernel
theorem dX0_become_146 : decode cX0_become 146 = .ok (.iload_n 2, 1) := by decide +kernel
theorem dX0_become_147 : decode cX0_become 147 = .ok (.iaload, 1) := by decide +kernel
theorem dX0_become_148 : decode cX0_become 148 = .ok (.iastore, 1) := by decide +kernel
theorem dX0_become_149 : decode cX0_become 149 = .ok (.aload_n 0, 1) := by decide +kernel
theorem dX0_become_150 : decode cX0_become 150 = .ok (.getfield 31, 3) := by decide +kernel
theorem dX0_become_153 : decode cX0_become 153 = .ok (.iload_n 2, 1) := by decide +kernel
theorem dX0_become_154 : decode cX0_become 154 = .ok (.aload_n 1, 1) := by decide +kernel
theorem dX0_become_155 : decode cX0_become 155 = .ok (.getfield 31, 3) := by decide +kernel
theorem dX0_become_158 : decode cX0_become 158 = .ok (.iload_n 2, 1) := by decide +kernel
theorem dX0_become_159 : decode cX0_become 159 = .ok (.iaload, 1) := by decide +kernel
theorem dX0_become_160 : decode cX0_become 160 = .ok (.iastore, 1) := by decide +kernel
theorem dX0_become_161 : decode cX0_become 161 = .ok (.iinc 2 1, 3) := by decide +kernel
theorem dX0_become_164 : decode cX0_become 164 = .ok (.goto (-33), 3) := by decide +kernel
theorem dX0_become_167 : decode cX0_become 167 = .ok (.return_, 1) := by decide +kernel
theorem dX0_cells_0 : decode cX0_cells 0 = .ok (.aload_n 0, 1) := by decide +kernel
theorem dX0_cells_1 : decode cX0_cells 1 = .ok (.getfield 37, 3) := by decide +kernel
theorem dX0_cells_4 : decode cX0_cells 4 = .ok (.aload_n 0, 1) := by decide +kernel
theorem dX0_cells_5 : decode cX0_cells 5 = .ok (.getfield 41, 3) := by decide +kernel
theorem dX0_cells_8 : decode cX0_cells 8 = .ok (.imul, 1) := by decide +kernel
theorem dX0_cells_9 : decode cX0_cells 9 = .ok (.ireturn, 1) := by decide +kernel
set_option maxRecDepth 20000 in
theorem ggX0_hasCell_X0_cells : GoodIn wsX0_hasCell wsX0_cells := goodIn_r _ [5, 6, 7, 11, 12, 13, 14, 15, 16, 17, 18, 19, 20, 21, 22, 23, 24] (by decide +kernel) (by decide +kernel)
set_option maxRecDepth 20000 in
theorem gX0_hasCell_X0_cells : GoodIn wsX0_hasCell (wsV RX0 60 RX0 yX0_cells wsX0_cells) := goodIn_app (goodIn_of _ (by decide +kernel)) ggX0_hasCell_X0_cells
set_option maxRecDepth 20000 in
theorem ggX0_hasCell_X6_isWithin : GoodIn wsX0_hasCell wsX6_isWithin := goodIn_r _ [10] (by decide +kernel) (by decide +kernel)
set_option maxRecDepth 20000 in
theorem gX0_hasCell_X6_isWithin_n64 : GoodIn wsX0_hasCell (wsX6_isWithin) := ggX0_hasCell_X6_isWithin
theorem dX0_hasCell_0 : decode cX0_hasCell 0 = .ok (.iload_n 1, 1) := by decide +kernel
theorem dX0_hasCell_1 : decode cX0_hasCell 1 = .ok (.iconst 0, 1) := by decide +kernel
theorem dX0_hasCell_2 : decode cX0_hasCell 2 = .ok (.aload_n 0, 1) := by decide +kernel
theorem dX0_hasCell_3 : decode cX0_hasCell 3 = .ok (.invokevirtual 60, 3) := by decide +kernel
theorem dX0_hasCell_6 : decode cX0_hasCell 6 = .ok (.iconst 1, 1) := by decide +kernel
theorem dX0_hasCell_7 : decode cX0_hasCell 7 = .ok (.isub, 1) := by decide +kernel
theorem dX0_hasCell_8 : decode cX0_hasCell 8 = .ok (.invokestatic 64, 3) := by decide +kernel
theorem dX0_hasCell_11 : decode cX0_hasCell 11 = .ok (.ireturn, 1) := by decide +kernel
set_option maxRecDepth 20000 in
theorem ggX0_hasTree_X6_isWithin : GoodIn wsX0_hasTree wsX6_isWithin := goodIn_r _ [4] (by decide +kernel) (by decide +kernel)
set_option maxRecDepth 20000 in
theorem gX0_hasTree_X6_isWithin_n64 : GoodIn wsX0_hasTree (wsX6_isWithin) := ggX0_hasTree_X6_isWithin
theorem dX0_hasTree_0 : decode cX0_hasTree 0 = .ok (.iload_n 1, 1) := by decide +kernel
theorem dX0_hasTree_1 : decode cX0_hasTree 1 = .ok (.iconst 0, 1) := by decide +kernel
theorem dX0_hasTree_2 : decode cX0_hasTree 2 = .ok (.aload_n 0, 1) := by decide +kernel
theorem dX0_hasTree_3 : decode cX0_hasTree 3 = .ok (.getfield 44, 3) := by decide +kernel
theorem dX0_hasTree_6 : decode cX0_hasTree 6 = .ok (.iconst 1, 1) := by decide +kernel
theorem dX0_hasTree_7 : decode cX0_hasTree 7 = .ok (.isub, 1) := by decide +kernel
theorem dX0_hasTree_8 : decode cX0_hasTree 8 = .ok (.invokestatic 64, 3) := by decide +kernel
theorem dX0_hasTree_11 : decode cX0_hasTree 11 = .ok (.ireturn, 1) := by decide +kernel
set_option maxRecDepth 20000 in
theorem ggX0_hasPerson_X6_isWithin : GoodIn wsX0_hasPerson wsX6_isWithin := goodIn_r _ [4] (by decide +kernel) (by decide +kernel)
set_option maxRecDepth 20000 in
theorem gX0_hasPerson_X6_isWithin_n64 : GoodIn wsX0_hasPerson (wsX6_isWithin) := ggX0_hasPerson_X6_isWithin
theorem dX0_hasPerson_0 : decode cX0_hasPerson 0 = .ok (.iload_n 1, 1) := by decide +kernel
theorem dX0_hasPerson_1 : decode cX0_hasPerson 1 = .ok (.iconst 0, 1) := by decide +kernel
theorem dX0_hasPerson_2 : decode cX0_hasPerson 2 = .ok (.aload_n 0, 1) := by decide +kernel
theorem dX0_hasPerson_3 : decode cX0_hasPerson 3 = .ok (.getfield 47, 3) := by decide +kernel
theorem dX0_hasPerson_6 : decode cX0_hasPerson 6 = .ok (.iconst 1, 1) := by decide +kernel
theorem dX0_hasPerson_7 : decode cX0_hasPerson 7 = .ok (.isub, 1) := by decide +kernel
theorem dX0_hasPerson_8 : decode cX0_hasPerson 8 = .ok (.invokestatic 64, 3) := by decide +kernel
theorem dX0_hasPerson_11 : decode cX0_hasPerson 11 = .ok (.ireturn, 1) := by decide +kernel
theorem dX0_hasTreeAt_0 : decode cX0_hasTreeAt 0 = .ok (.iconst 0, 1) := by decide +kernel
theorem dX0_hasTreeAt_1 : decode cX0_hasTreeAt 1 = .ok (.istore_n 2, 1) := by decide +kernel
theorem dX0_hasTreeAt_2 : decode cX0_hasTreeAt 2 = .ok (.iload_n 2, 1) := by decide +kernel
theorem dX0_hasTreeAt_3 : decode cX0_hasTreeAt 3 = .ok (.aload_n 0, 1) := by decide +kernel
theorem dX0_hasTreeAt_4 : decode cX0_hasTreeAt 4 = .ok (.getfield 44, 3) := by decide +kernel
theorem dX0_hasTreeAt_7 : decode cX0_hasTreeAt 7 = .ok (.if_icmp .ge 21, 3) := by decide +kernel
theorem dX0_hasTreeAt_10 : decode cX0_hasTreeAt 10 = .ok (.aload_n 0, 1) := by decide +kernel
theorem dX0_hasTreeAt_11 : decode cX0_hasTreeAt 11 = .ok (.getfield 9, 3) := by decide +kernel
theorem dX0_hasTreeAt_14 : decode cX0_hasTreeAt 14 = .ok (.iload_n 2, 1) := by decide +kernel
theorem dX0_hasTreeAt_15 : decode cX0_hasTreeAt 15 = .ok (.iaload, 1) := by decide +kernel
theorem dX0_hasTreeAt_16 : decode cX0_hasTreeAt 16 = .ok (.iload_n 1, 1) := by decide +kernel
theorem dX0_hasTreeAt_17 : decode cX0_hasTreeAt 17 = .ok (.if_icmp .ne 5, 3) := by decide +kernel
theorem dX0_hasTreeAt_20 : decode cX0_hasTreeAt 20 = .ok (.iconst 1, 1) := by decide +kernel
theorem dX0_hasTreeAt_21 : decode cX0_hasTreeAt 21 = .ok (.ireturn, 1) := by decide +kernel
theorem dX0_hasTreeAt_22 : decode cX0_hasTreeAt 22 = .ok (.iinc 2 1, 3) := by decide +kernel
theorem dX0_hasTreeAt_25 : decode cX0_hasTreeAt 25 = .ok (.goto (-23), 3) := by decide +kernel
theorem dX0_hasTreeAt_28 : decode cX0_hasTreeAt 28 = .ok (.iconst 0, 1) := by decide +kernel
theorem dX0_hasTreeAt_29 : decode cX0_hasTreeAt 29 = .ok (.ireturn, 1) := by decide +kernel
theorem dX0_addTree_0 : decode cX0_addTree 0 = .ok (.aload_n 0, 1) := by decide +kernel
theorem dX0_addTree_1 : decode cX0_addTree 1 = .ok (.getfield 44, 3) := by decide +kernel
theorem dX0_addTree_4 : decode cX0_addTree 4 = .ok (.iconst 5, 1) := by decide +kernel
theorem dX0_addTree_5 : decode cX0_addTree 5 = .ok (.if_icmp .le 4, 3) := by decide +kernel
theorem dX0_addTree_8 : decode cX0_addTree 8 = .ok (.return_, 1) := by decide +kernel
theorem dX0_addTree_9 : decode cX0_addTree 9 = .ok (.aload_n 0, 1) := by decide +kernel
theorem dX0_addTree_10 : decode cX0_addTree 10 = .ok (.getfield 9, 3) := by decide +kernel
theorem dX0_addTree_13 : decode cX0_addTree 13 = .ok (.aload_n 0, 1) := by decide +kernel
theorem dX0_addTree_14 : decode cX0_addTree 14 = .ok (.getfield 44, 3) := by decide +kernel
theorem dX0_addTree_17 : decode cX0_addTree 17 = .ok (.iload_n 1, 1) := by decide +kernel
theorem dX0_addTree_18 : decode cX0_addTree 18 = .ok (.iastore, 1) := by decide +kernel
theorem dX0_addTree_19 : decode cX0_addTree 19 = .ok (.aload_n 0, 1) := by decide +kernel
theorem dX0_addTree_20 : decode cX0_addTree 20 = .ok (.getfield 15, 3) := by decide +kernel
theorem dX0_addTree_23 : decode cX0_addTree 23 = .ok (.aload_n 0, 1) := by decide +kernel
theorem dX0_addTree_24 : decode cX0_addTree 24 = .ok (.getfield 44, 3) := by decide +kernel
theorem dX0_addTree_27 : decode cX0_addTree 27 = .ok (.iload_n 2, 1) := by decide +kernel
theorem dX0_addTree_28 : decode cX0_addTree 28 = .ok (.iastore, 1) := by decide +kernel
theorem dX0_addTree_29 : decode cX0_addTree 29 = .ok (.aload_n 0, 1) := by decide +kernel
theorem dX0_addTree_30 : decode cX0_addTree 30 = .ok (.getfield 18, 3) := by decide +kernel
theorem dX0_addTree_33 : decode cX0_addTree 33 = .ok (.aload_n 0, 1) := by decide +kernel
theorem dX0_addTree_34 : decode cX0_addTree 34 = .ok (.getfield 44, 3) := by decide +kernel
theorem dX0_addTree_37 : decode cX0_addTree 37 = .ok (.iload 4, 2) := by decide +kernel
theorem dX0_addTree_39 : decode cX0_addTree 39 = .ok (.iastore, 1) := by decide +kernel
theorem dX0_addTree_40 : decode cX0_addTree 40 = .ok (.aload_n 0, 1) := by decide +kernel
theorem dX0_addTree_41 : decode cX0_addTree 41 = .ok (.getfield 21, 3) := by decide +kernel
theorem dX0_addTree_44 : decode cX0_addTree 44 = .ok (.aload_n 0, 1) := by decide +kernel
theorem dX0_addTree_45 : decode cX0_addTree 45 = .ok (.getfield 44, 3) := by decide +kernel
theorem dX0_addTree_48 : decode cX0_addTree 48 = .ok (.iload_n 3, 1) := by decide +kernel
theorem dX0_addTree_49 : decode cX0_addTree 49 = .ok (.bastore, 1) := by decide +kernel
theorem dX0_addTree_50 : decode cX0_addTree 50 = .ok (.aload_n 0, 1) := by decide +kernel
theorem dX0_addTree_51 : decode cX0_addTree 51 = .ok (.getfield 25, 3) := by decide +kernel
theorem dX0_addTree_54 : decode cX0_addTree 54 = .ok (.aload_n 0, 1) := by decide +kernel
theorem dX0_addTree_55 : decode cX0_addTree 55 = .ok (.getfield 44, 3) := by decide +kernel
theorem dX0_addTree_58 : decode cX0_addTree 58 = .ok (.iconst 0, 1) := by decide +kernel
theorem dX0_addTree_59 : decode cX0_addTree 59 = .ok (.bastore, 1) := by decide +kernel
theorem dX0_addTree_60 : decode cX0_addTree 60 = .ok (.aload_n 0, 1) := by decide +kernel
theorem dX0_addTree_61 : decode cX0_addTree 61 = .ok (.dup, 1) := by decide +kernel
theorem dX0_addTree_62 : decode cX0_addTree 62 = .ok (.getfield 44, 3) := by decide +kernel
theorem dX0_addTree_65 : decode cX0_addTree 65 = .ok (.iconst 1, 1) := by decide +kernel
theorem dX0_addTree_66 : decode cX0_addTree 66 = .ok (.iadd, 1) := by decide +kernel
theorem dX0_addTree_67 : decode cX0_addTree 67 = .ok (.putfield 44, 3) := by decide +kernel
theorem dX0_addTree_70 : decode cX0_addTree 70 = .ok (.return_, 1) := by decide +kernel
theorem dX0_addPerson_0 : decode cX0_addPerson 0 = .ok (.aload_n 0, 1) := by decide +kernel
theorem dX0_addPerson_1 : decode cX0_addPerson 1 = .ok (.getfield 47, 3) := by decide +kernel
theorem dX0_addPerson_4 : decode cX0_addPerson 4 = .ok (.bipush 7, 2) := by decide +kernel
theorem dX0_addPerson_6 : decode cX0_addPerson 6 = .ok (.if_icmp .lt 4, 3) := by decide +kernel
theorem dX0_addPerson_9 : decode cX0_addPerson 9 = .ok (.return_, 1) := by decide +kernel
theorem dX0_addPerson_10 : decode cX0_addPerson 10 = .ok (.aload_n 0, 1) := by decide +kernel
theorem dX0_addPerson_11 : decode cX0_addPerson 11 = .ok (.getfield 28, 3) := by decide +kernel
theorem dX0_addPerson_14 : decode cX0_addPerson 14 = .ok (.aload_n 0, 1) := by decide +kernel
theorem dX0_addPerson_15 : decode cX0_addPerson 15 = .ok (.getfield 47, 3) := by decide +kernel
theorem dX0_addPerson_18 : decode cX0_addPerson 18 = .ok (.iload_n 1, 1) := by decide +kernel
theorem dX0_addPerson_19 : decode cX0_addPerson 19 = .ok (.iastore, 1) := by decide +kernel
theorem dX0_addPerson_20 : decode cX0_addPerson 20 = .ok (.aload_n 0, 1) := by decide +kernel
theorem dX0_addPerson_21 : decode cX0_addPerson 21 = .ok (.getfield 31, 3) := by decide +kernel
theorem dX0_addPerson_24 : decode cX0_addPerson 24 = .ok (.aload_n 0, 1) := by decide +kernel
theorem dX0_addPerson_25 : decode cX0_addPerson 25 = .ok (.getfield 47, 3) := by decide +kernel
theorem dX0_addPerson_28 : decode cX0_addPerson 28 = .ok (.iload_n 2, 1) := by decide +kernel
theorem dX0_addPerson_29 : decode cX0_addPerson 29 = .ok (.iastore, 1) := by decide +kernel
theorem dX0_addPerson_30 : decode cX0_addPerson 30 = .ok (.aload_n 0, 1) := by decide +kernel
theorem dX0_addPerson_31 : decode cX0_addPerson 31 = .ok (.dup, 1) := by decide +kernel
theorem dX0_addPerson_32 : decode cX0_addPerson 32 = .ok (.getfield 47, 3) := by decide +kernel
theorem dX0_addPerson_35 : decode cX0_addPerson 35 = .ok (.iconst 1, 1) := by decide +kernel
theorem dX0_addPerson_36 : decode cX0_addPerson 36 = .ok (.iadd, 1) := by decide +kernel
theorem dX0_addPerson_37 : decode cX0_addPerson 37 = .ok (.putfield 47, 3) := by decide +kernel
theorem dX0_addPerson_40 : decode cX0_addPerson 40 = .ok (.return_, 1) := by decide +kernel
theorem dX0_lower_0 : decode cX0_lower 0 = .ok (.aload_n 0, 1) := by decide +kernel
theorem dX0_lower_1 : decode cX0_lower 1 = .ok (.getfield 15, 3) := by decide +kernel
theorem dX0_lower_4 : decode cX0_lower 4 = .ok (.iload_n 1, 1) := by decide +kernel
theorem dX0_lower_5 : decode cX0_lower 5 = .ok (.aload_n 0, 1) := by decide +kernel
theorem dX0_lower_6 : decode cX0_lower 6 = .ok (.getfield 15, 3) := by decide +kernel
theorem dX0_lower_9 : decode cX0_lower 9 = .ok (.iload_n 1, 1) := by decide +kernel
theorem dX0_lower_10 : decode cX0_lower 10 = .ok (.iaload, 1) := by decide +kernel
theorem dX0_lower_11 : decode cX0_lower 11 = .ok (.iload_n 2, 1) := by decide +kernel
theorem dX0_lower_12 : decode cX0_lower 12 = .ok (.isub, 1) := by decide +kernel
theorem dX0_lower_13 : decode cX0_lower 13 = .ok (.iconst 0, 1) := by decide +kernel
theorem dX0_lower_14 : decode cX0_lower 14 = .ok (.invokestatic 68, 3) := by decide +kernel
theorem dX0_lower_17 : decode cX0_lower 17 = .ok (.iastore, 1) := by decide +kernel
theorem dX0_lower_18 : decode cX0_lower 18 = .ok (.return_, 1) := by decide +kernel
theorem dX0_growAll_0 : decode cX0_growAll 0 = .ok (.iconst 0, 1) := by decide +kernel
theorem dX0_growAll_1 : decode cX0_growAll 1 = .ok (.istore_n 1, 1) := by decide +kernel
theorem dX0_growAll_2 : decode cX0_growAll 2 = .ok (.iload_n 1, 1) := by decide +kernel
theorem dX0_growAll_3 : decode cX0_growAll 3 = .ok (.aload_n 0, 1) := by decide +kernel
theorem dX0_growAll_4 : decode cX0_growAll 4 = .ok (.getfield 44, 3) := by decide +kernel
theorem dX0_growAll_7 : decode cX0_growAll 7 = .ok (.if_icmp .ge 37, 3) := by decide +kernel
theorem dX0_growAll_10 : decode cX0_growAll 10 = .ok (.aload_n 0, 1) := by decide +kernel
theorem dX0_growAll_11 : decode cX0_growAll 11 = .ok (.getfield 25, 3) := by decide +kernel
theorem dX0_growAll_14 : decode cX0_growAll 14 = .ok (.iload_n 1, 1) := by decide +kernel
theorem dX0_growAll_15 : decode cX0_growAll 15 = .ok (.baload, 1) := by decide +kernel
theorem dX0_growAll_16 : decode cX0_growAll 16 = .ok (.ifCond .ne 22, 3) := by decide +kernel
theorem dX0_growAll_19 : decode cX0_growAll 19 = .ok (.aload_n 0, 1) := by decide +kernel
theorem dX0_growAll_20 : decode cX0_growAll 20 = .ok (.getfield 15, 3) := by decide +kernel
theorem dX0_growAll_23 : decode cX0_growAll 23 = .ok (.iload_n 1, 1) := by decide +kernel
theorem dX0_growAll_24 : decode cX0_growAll 24 = .ok (.aload_n 0, 1) := by decide +kernel
theorem dX0_growAll_25 : decode cX0_growAll 25 = .ok (.getfield 15, 3) := by decide +kernel
theorem dX0_growAll_28 : decode cX0_growAll 28 = .ok (.iload_n 1, 1) := by decide +kernel
theorem dX0_growAll_29 : decode cX0_growAll 29 = .ok (.iaload, 1) := by decide +kernel
theorem dX0_growAll_30 : decode cX0_growAll 30 = .ok (.iconst 1, 1) := by decide +kernel
theorem dX0_growAll_31 : decode cX0_growAll 31 = .ok (.iadd, 1) := by decide +kernel
theorem dX0_growAll_32 : decode cX0_growAll 32 = .ok (.bipush 20, 2) := by decide +kernel
theorem dX0_growAll_34 : decode cX0_growAll 34 = .ok (.invokestatic 74, 3) := by decide +kernel
theorem dX0_growAll_37 : decode cX0_growAll 37 = .ok (.iastore, 1) := by decide +kernel
theorem dX0_growAll_38 : decode cX0_growAll 38 = .ok (.iinc 1 1, 3) := by decide +kernel
theorem dX0_growAll_41 : decode cX0_growAll 41 = .ok (.goto (-39), 3) := by decide +kernel
theorem dX0_growAll_44 : decode cX0_growAll 44 = .ok (.return_, 1) := by decide +kernel
theorem dX0_rowOf_0 : decode cX0_rowOf 0 = .ok (.aload_n 0, 1) := by decide +kernel
theorem dX0_rowOf_1 : decode cX0_rowOf 1 = .ok (.getfield 37, 3) := by decide +kernel
theorem dX0_rowOf_4 : decode cX0_rowOf 4 = .ok (.ifCond .le 12, 3) := by decide +kernel
theorem dX0_rowOf_7 : decode cX0_rowOf 7 = .ok (.iload_n 1, 1) := by decide +kernel
theorem dX0_rowOf_8 : decode cX0_rowOf 8 = .ok (.aload_n 0, 1) := by decide +kernel
theorem dX0_rowOf_9 : decode cX0_rowOf 9 = .ok (.getfield 37, 3) := by decide +kernel
theorem dX0_rowOf_12 : decode cX0_rowOf 12 = .ok (.idiv, 1) := by decide +kernel
theorem dX0_rowOf_13 : decode cX0_rowOf 13 = .ok (.goto 4, 3) := by decide +kernel
theorem dX0_rowOf_16 : decode cX0_rowOf 16 = .ok (.iconst 0, 1) := by decide +kernel
theorem dX0_rowOf_17 : decode cX0_rowOf 17 = .ok (.ireturn, 1) := by decide +kernel
theorem dX0_columnOf_0 : decode cX0_columnOf 0 = .ok (.aload_n 0, 1) := by decide +kernel
theorem dX0_columnOf_1 : decode cX0_columnOf 1 = .ok (.getfield 37, 3) := by decide +kernel
theorem dX0_columnOf_4 : decode cX0_columnOf 4 = .ok (.ifCond .le 12, 3) := by decide +kernel
theorem dX0_columnOf_7 : decode cX0_columnOf 7 = .ok (.iload_n 1, 1) := by decide +kernel
theorem dX0_columnOf_8 : decode cX0_columnOf 8 = .ok (.aload_n 0, 1) := by decide +kernel
theorem dX0_columnOf_9 : decode cX0_columnOf 9 = .ok (.getfield 37, 3) := by decide +kernel
theorem dX0_columnOf_12 : decode cX0_columnOf 12 = .ok (.irem, 1) := by decide +kernel
theorem dX0_columnOf_13 : decode cX0_columnOf 13 = .ok (.goto 4, 3) := by decide +kernel
theorem dX0_columnOf_16 : decode cX0_columnOf 16 = .ok (.iconst 0, 1) := by decide +kernel
theorem dX0_columnOf_17 : decode cX0_columnOf 17 = .ok (.ireturn, 1) := by decide +kernel
set_option maxRecDepth 20000 in
theorem ggX0_steps_X0_rowOf : GoodIn wsX0_steps wsX0_rowOf := goodIn_r _ [9, 10, 15, 16, 17, 18, 19, 20, 21, 22, 23, 24, 25, 26, 27, 28] (by decide +kernel) (by decide +kernel)
set_option maxRecDepth 20000 in
theorem gX0_steps_X0_rowOf : GoodIn wsX0_steps (wsV RX0 77 RX0 yX0_rowOf wsX0_rowOf) := goodIn_app (goodIn_of _ (by decide +kernel)) ggX0_steps_X0_rowOf
set_option maxRecDepth 20000 in
theorem ggX0_steps_X0_columnOf : GoodIn wsX0_steps wsX0_columnOf := goodIn_r _ [14, 10, 15, 16, 17, 18, 19, 20, 21, 22, 23, 24, 25, 26, 27, 28] (by decide +kernel) (by decide +kernel)
set_option maxRecDepth 20000 in
theorem gX0_steps_X0_columnOf : GoodIn wsX0_steps (wsV RX0 84 RX0 yX0_columnOf wsX0_columnOf) := goodIn_app (goodIn_of _ (by decide +kernel)) ggX0_steps_X0_columnOf
theorem dX0_steps_0 : decode cX0_steps 0 = .ok (.aload_n 0, 1) := by decide +kernel
theorem dX0_steps_1 : decode cX0_steps 1 = .ok (.iload_n 1, 1) := by decide +kernel
theorem dX0_steps_2 : decode cX0_steps 2 = .ok (.invokevirtual 77, 3) := by decide +kernel
theorem dX0_steps_5 : decode cX0_steps 5 = .ok (.aload_n 0, 1) := by decide +kernel
theorem dX0_steps_6 : decode cX0_steps 6 = .ok (.iload_n 2, 1) := by decide +kernel
theorem dX0_steps_7 : decode cX0_steps 7 = .ok (.invokevirtual 77, 3) := by decide +kernel
theorem dX0_steps_10 : decode cX0_steps 10 = .ok (.isub, 1) := by decide +kernel
theorem dX0_steps_11 : decode cX0_steps 11 = .ok (.invokestatic 81, 3) := by decide +kernel
theorem dX0_steps_14 : decode cX0_steps 14 = .ok (.aload_n 0, 1) := by decide +kernel
theorem dX0_steps_15 : decode cX0_steps 15 = .ok (.iload_n 1, 1) := by decide +kernel
theorem dX0_steps_16 : decode cX0_steps 16 = .ok (.invokevirtual 84, 3) := by decide +kernel
theorem dX0_steps_19 : decode cX0_steps 19 = .ok (.aload_n 0, 1) := by decide +kernel
theorem dX0_steps_20 : decode cX0_steps 20 = .ok (.iload_n 2, 1) := by decide +kernel
theorem dX0_steps_21 : decode cX0_steps 21 = .ok (.invokevirtual 84, 3) := by decide +kernel
theorem dX0_steps_24 : decode cX0_steps 24 = .ok (.isub, 1) := by decide +kernel
theorem dX0_steps_25 : decode cX0_steps 25 = .ok (.invokestatic 81, 3) := by decide +kernel
theorem dX0_steps_28 : decode cX0_steps 28 = .ok (.iadd, 1) := by decide +kernel
theorem dX0_steps_29 : decode cX0_steps 29 = .ok (.ireturn, 1) := by decide +kernel
set_option maxRecDepth 20000 in
theorem ggX0_neighbour_X0_rowOf : GoodIn wsX0_neighbour wsX0_rowOf := goodIn_r _ [7, 1, 12, 13, 14, 15, 16, 17, 18, 19, 20, 21, 22, 23, 24, 25] (by decide +kernel) (by decide +kernel)
set_option maxRecDepth 20000 in
theorem gX0_neighbour_X0_rowOf : GoodIn wsX0_neighbour (wsV RX0 77 RX0 yX0_rowOf wsX0_rowOf) := goodIn_app (goodIn_of _ (by decide +kernel)) ggX0_neighbour_X0_rowOf
set_option maxRecDepth 20000 in
theorem ggX0_neighbour_X0_columnOf : GoodIn wsX0_neighbour wsX0_columnOf := goodIn_r _ [11, 1, 12, 13, 14, 15, 16, 17, 18, 19, 20, 21, 22, 23, 24, 25] (by decide +kernel) (by decide +kernel)
set_option maxRecDepth 20000 in
theorem gX0_neighbour_X0_columnOf : GoodIn wsX0_neighbour (wsV RX0 84 RX0 yX0_columnOf wsX0_columnOf) := goodIn_app (goodIn_of _ (by decide +kernel)) ggX0_neighbour_X0_columnOf
theorem dX0_neighbour_0 : decode cX0_neighbour 0 = .ok (.aload_n 0, 1) := by decide +kernel
theorem dX0_neighbour_1 : decode cX0_neighbour 1 = .ok (.iload_n 1, 1) := by decide +kernel
theorem dX0_neighbour_2 : decode cX0_neighbour 2 = .ok (.invokevirtual 77, 3) := by decide +kernel
theorem dX0_neighbour_5 : decode cX0_neighbour 5 = .ok (.istore_n 3, 1) := by decide +kernel
theorem dX0_neighbour_6 : decode cX0_neighbour 6 = .ok (.aload_n 0, 1) := by decide +kernel
theorem dX0_neighbour_7 : decode cX0_neighbour 7 = .ok (.iload_n 1, 1) := by decide +kernel
theorem dX0_neighbour_8 : decode cX0_neighbour 8 = .ok (.invokevirtual 84, 3) := by decide +kernel
theorem dX0_neighbour_11 : decode cX0_neighbour 11 = .ok (.istore 4, 2) := by decide +kernel
theorem dX0_neighbour_13 : decode cX0_neighbour 13 = .ok (.iload_n 2, 1) := by decide +kernel
theorem dX0_neighbour_14 : decode cX0_neighbour 14 = .ok (.tableswitch 102 0 3 #[30, 46, 66, 88], 30) := by decide +kernel
theorem dX0_neighbour_44 : decode cX0_neighbour 44 = .ok (.iload_n 3, 1) := by decide +kernel
theorem dX0_neighbour_45 : decode cX0_neighbour 45 = .ok (.ifCond .le 12, 3) := by decide +kernel
theorem dX0_neighbour_48 : decode cX0_neighbour 48 = .ok (.iload_n 1, 1) := by decide +kernel
theorem dX0_neighbour_49 : decode cX0_neighbour 49 = .ok (.aload_n 0, 1) := by decide +kernel
theorem dX0_neighbour_50 : decode cX0_neighbour 50 = .ok (.getfield 37, 3) := by decide +kernel
theorem dX0_neighbour_53 : decode cX0_neighbour 53 = .ok (.isub, 1) := by decide +kernel
theorem dX0_neighbour_54 : decode cX0_neighbour 54 = .ok (.goto 5, 3) := by decide +kernel
theorem dX0_neighbour_57 : decode cX0_neighbour 57 = .ok (.bipush (-9), 2) := by decide +kernel
theorem dX0_neighbour_59 : decode cX0_neighbour 59 = .ok (.ireturn, 1) := by decide +kernel
theorem dX0_neighbour_60 : decode cX0_neighbour 60 = .ok (.iload 4, 2) := by decide +kernel
theorem dX0_neighbour_62 : decode cX0_neighbour 62 = .ok (.aload_n 0, 1) := by decide +kernel
theorem dX0_neighbour_63 : decode cX0_neighbour 63 = .ok (.getfield 37, 3) := by decide +kernel
theorem dX0_neighbour_66 : decode cX0_neighbour 66 = .ok (.iconst 1, 1) := by decide +kernel
theorem dX0_neighbour_67 : decode cX0_neighbour 67 = .ok (.isub, 1) := by decide +kernel
theorem dX0_neighbour_68 : decode cX0_neighbour 68 = .ok (.if_icmp .ge 9, 3) := by decide +kernel
theorem dX0_neighbour_71 : decode cX0_neighbour 71 = .ok (.iload_n 1, 1) := by decide +kernel
theorem dX0_neighbour_72 : decode cX0_neighbour 72 = .ok (.iconst 1, 1) := by decide +kernel
theorem dX0_neighbour_73 : decode cX0_neighbour 73 = .ok (.iadd, 1) := by decide +kernel
theorem dX0_neighbour_74 : decode cX0_neighbour 74 = .ok (.goto 5, 3) := by decide +kernel
theorem dX0_neighbour_77 : decode cX0_neighbour 77 = .ok (.bipush (-9), 2) := by decide +kernel
theorem dX0_neighbour_79 : decode cX0_neighbour 79 = .ok (.ireturn, 1) := by decide +kernel
theorem dX0_neighbour_80 : decode cX0_neighbour 80 = .ok (.iload_n 3, 1) := by decide +kernel
theorem dX0_neighbour_81 : decode cX0_neighbour 81 = .ok (.aload_n 0, 1) := by decide +kernel
theorem dX0_neighbour_82 : decode cX0_neighbour 82 = .ok (.getfield 41, 3) := by decide +kernel
theorem dX0_neighbour_85 : decode cX0_neighbour 85 = .ok (.iconst 1, 1) := by decide +kernel
theorem dX0_neighbour_86 : decode cX0_neighbour 86 = .ok (.isub, 1) := by decide +kernel
theorem dX0_neighbour_87 : decode cX0_neighbour 87 = .ok (.if_icmp .ge 12, 3) := by decide +kernel
theorem dX0_neighbour_90 : decode cX0_neighbour 90 = .ok (.iload_n 1, 1) := by decide +kernel
theorem dX0_neighbour_91 : decode cX0_neighbour 91 = .ok (.aload_n 0, 1) := by decide +kernel
theorem dX0_neighbour_92 : decode cX0_neighbour 92 = .ok (.getfield 37, 3) := by decide +kernel
theorem dX0_neighbour_95 : decode cX0_neighbour 95 = .ok (.iadd, 1) := by decide +kernel
theorem dX0_neighbour_96 : decode cX0_neighbour 96 = .ok (.goto 5, 3) := by decide +kernel
theorem dX0_neighbour_99 : decode cX0_neighbour 99 = .ok (.bipush (-9), 2) := by decide +kernel
theorem dX0_neighbour_101 : decode cX0_neighbour 101 = .ok (.ireturn, 1) := by decide +kernel
theorem dX0_neighbour_102 : decode cX0_neighbour 102 = .ok (.iload 4, 2) := by decide +kernel
theorem dX0_neighbour_104 : decode cX0_neighbour 104 = .ok (.ifCond .le 9, 3) := by decide +kernel
theorem dX0_neighbour_107 : decode cX0_neighbour 107 = .ok (.iload_n 1, 1) := by decide +kernel
theorem dX0_neighbour_108 : decode cX0_neighbour 108 = .ok (.iconst 1, 1) := by decide +kernel
theorem dX0_neighbour_109 : decode cX0_neighbour 109 = .ok (.isub, 1) := by decide +kernel
theorem dX0_neighbour_110 : decode cX0_neighbour 110 = .ok (.goto 5, 3) := by decide +kernel
theorem dX0_neighbour_113 : decode cX0_neighbour 113 = .ok (.bipush (-9), 2) := by decide +kernel
theorem dX0_neighbour_115 : decode cX0_neighbour 115 = .ok (.ireturn, 1) := by decide +kernel
theorem dX0_neighbour_116 : decode cX0_neighbour 116 = .ok (.bipush (-9), 2) := by decide +kernel
theorem dX0_neighbour_118 : decode cX0_neighbour 118 = .ok (.ireturn, 1) := by decide +kernel
theorem dX0_isShading_0 : decode cX0_isShading 0 = .ok (.aload_n 0, 1) := by decide +kernel
theorem dX0_isShading_1 : decode cX0_isShading 1 = .ok (.getfield 15, 3) := by decide +kernel
theorem dX0_isShading_4 : decode cX0_isShading 4 = .ok (.iload_n 1, 1) := by decide +kernel
theorem dX0_isShading_5 : decode cX0_isShading 5 = .ok (.iaload, 1) := by decide +kernel
theorem dX0_isShading_6 : decode cX0_isShading 6 = .ok (.ifCond .eq 33, 3) := by decide +kernel
theorem dX0_isShading_9 : decode cX0_isShading 9 = .ok (.aload_n 0, 1) := by decide +kernel
theorem dX0_isShading_10 : decode cX0_isShading 10 = .ok (.getfield 56, 3) := by decide +kernel
theorem dX0_isShading_13 : decode cX0_isShading 13 = .ok (.ifCond .eq 12, 3) := by decide +kernel
theorem dX0_isShading_16 : decode cX0_isShading 16 = .ok (.aload_n 0, 1) := by decide +kernel
theorem dX0_isShading_17 : decode cX0_isShading 17 = .ok (.getfield 21, 3) := by decide +kernel
theorem dX0_isShading_20 : decode cX0_isShading 20 = .ok (.iload_n 1, 1) := by decide +kernel
theorem dX0_isShading_21 : decode cX0_isShading 21 = .ok (.baload, 1) := by decide +kernel
theorem dX0_isShading_22 : decode cX0_isShading 22 = .ok (.ifCond .eq 17, 3) := by decide +kernel
theorem dX0_isShading_25 : decode cX0_isShading 25 = .ok (.aload_n 0, 1) := by decide +kernel
theorem dX0_isShading_26 : decode cX0_isShading 26 = .ok (.getfield 37, 3) := by decide +kernel
theorem dX0_isShading_29 : decode cX0_isShading 29 = .ok (.ifCond .le 10, 3) := by decide +kernel
theorem dX0_isShading_32 : decode cX0_isShading 32 = .ok (.aload_n 0, 1) := by decide +kernel
theorem dX0_isShading_33 : decode cX0_isShading 33 = .ok (.getfield 50, 3) := by decide +kernel
theorem dX0_isShading_36 : decode cX0_isShading 36 = .ok (.ifCond .gt 5, 3) := by decide +kernel
theorem dX0_isShading_39 : decode cX0_isShading 39 = .ok (.iconst 0, 1) := by decide +kernel
theorem dX0_isShading_40 : decode cX0_isShading 40 = .ok (.ireturn, 1) := by decide +kernel
theorem dX0_isShading_41 : decode cX0_isShading 41 = .ok (.aload_n 0, 1) := by decide +kernel
theorem dX0_isShading_42 : decode cX0_isShading 42 = .ok (.getfield 9, 3) := by decide +kernel
theorem dX0_isShading_45 : decode cX0_isShading 45 = .ok (.iload_n 1, 1) := by decide +kernel
theorem dX0_isShading_46 : decode cX0_isShading 46 = .ok (.iaload, 1) := by decide +kernel
theorem dX0_isShading_47 : decode cX0_isShading 47 = .ok (.iload_n 2, 1) := by decide +kernel
theorem dX0_isShading_48 : decode cX0_isShading 48 = .ok (.isub, 1) := by decide +kernel
theorem dX0_isShading_49 : decode cX0_isShading 49 = .ok (.istore_n 3, 1) := by decide +kernel
theorem dX0_isShading_50 : decode cX0_isShading 50 = .ok (.iload_n 3, 1) := by decide +kernel
theorem dX0_isShading_51 : decode cX0_isShading 51 = .ok (.ifCond .lt 36, 3) := by decide +kernel
theorem dX0_isShading_54 : decode cX0_isShading 54 = .ok (.iload_n 3, 1) := by decide +kernel
theorem dX0_isShading_55 : decode cX0_isShading 55 = .ok (.aload_n 0, 1) := by decide +kernel
theorem dX0_isShading_56 : decode cX0_isShading 56 = .ok (.getfield 37, 3) := by decide +kernel
theorem dX0_isShading_59 : decode cX0_isShading 59 = .ok (.irem, 1) := by decide +kernel
theorem dX0_isShading_60 : decode cX0_isShading 60 = .ok (.ifCond .ne 27, 3) := by decide +kernel
theorem dX0_isShading_63 : decode cX0_isShading 63 = .ok (.iload_n 3, 1) := by decide +kernel
theorem dX0_isShading_64 : decode cX0_isShading 64 = .ok (.aload_n 0, 1) := by decide +kernel
theorem dX0_isShading_65 : decode cX0_isShading 65 = .ok (.getfield 37, 3) := by decide +kernel
theorem dX0_isShading_68 : decode cX0_isShading 68 = .ok (.idiv, 1) := by decide +kernel
theorem dX0_isShading_69 : decode cX0_isShading 69 = .ok (.aload_n 0, 1) := by decide +kernel
theorem dX0_isShading_70 : decode cX0_isShading 70 = .ok (.getfield 15, 3) := by decide +kernel
theorem dX0_isShading_73 : decode cX0_isShading 73 = .ok (.iload_n 1, 1) := by decide +kernel
theorem dX0_isShading_74 : decode cX0_isShading 74 = .ok (.iaload, 1) := by decide +kernel
theorem dX0_isShading_75 : decode cX0_isShading 75 = .ok (.aload_n 0, 1) := by decide +kernel
theorem dX0_isShading_76 : decode cX0_isShading 76 = .ok (.getfield 50, 3) := by decide +kernel
theorem dX0_isShading_79 : decode cX0_isShading 79 = .ok (.idiv, 1) := by decide +kernel
theorem dX0_isShading_80 : decode cX0_isShading 80 = .ok (.if_icmp .gt 7, 3) := by decide +kernel
theorem dX0_isShading_83 : decode cX0_isShading 83 = .ok (.iconst 1, 1) := by decide +kernel
theorem dX0_isShading_84 : decode cX0_isShading 84 = .ok (.goto 4, 3) := by decide +kernel
theorem dX0_isShading_87 : decode cX0_isShading 87 = .ok (.iconst 0, 1) := by decide +kernel
theorem dX0_isShading_88 : decode cX0_isShading 88 = .ok (.ireturn, 1) := by decide +kernel
set_option maxRecDepth 20000 in
theorem ggX0_shadeOf_X0_cells : GoodIn wsX0_shadeOf wsX0_cells := goodIn_r _ [5, 6, 7, 17, 18, 19, 20, 21, 22, 23, 24, 25, 26, 27, 28, 29, 30] (by decide +kernel) (by decide +kernel)
set_option maxRecDepth 20000 in
theorem gX0_shadeOf_X0_cells : GoodIn wsX0_shadeOf (wsV RX0 60 RX0 yX0_cells wsX0_cells) := goodIn_app (goodIn_of _ (by decide +kernel)) ggX0_shadeOf_X0_cells
set_option maxRecDepth 20000 in
theorem ggX0_shadeOf_X0_isShading : GoodIn wsX0_shadeOf wsX0_isShading := goodIn_r _ [11, 12, 13, 14, 6, 15, 16, 17, 18, 19, 20, 21, 22, 23, 24, 25, 26, 27, 28, 29, 30] (by decide +kernel) (by decide +kernel)
set_option maxRecDepth 20000 in
theorem gX0_shadeOf_X0_isShading : GoodIn wsX0_shadeOf (wsV RX0 87 RX0 yX0_isShading wsX0_isShading) := goodIn_app (goodIn_of _ (by decide +kernel)) ggX0_shadeOf_X0_isShading
theorem dX0_shadeOf_0 : decode cX0_shadeOf 0 = .ok (.iconst 0, 1) := by decide +kernel
theorem dX0_shadeOf_1 : decode cX0_shadeOf 1 = .ok (.istore_n 2, 1) := by decide +kernel
theorem dX0_shadeOf_2 : decode cX0_shadeOf 2 = .ok (.iconst 0, 1) := by decide +kernel
theorem dX0_shadeOf_3 : decode cX0_shadeOf 3 = .ok (.istore_n 3, 1) := by decide +kernel
theorem dX0_shadeOf_4 : decode cX0_shadeOf 4 = .ok (.iload_n 3, 1) := by decide +kernel
theorem dX0_shadeOf_5 : decode cX0_shadeOf 5 = .ok (.aload_n 0, 1) := by decide +kernel
theorem dX0_shadeOf_6 : decode cX0_shadeOf 6 = .ok (.invokevirtual 60, 3) := by decide +kernel
theorem dX0_shadeOf_9 : decode cX0_shadeOf 9 = .ok (.if_icmp .ge 24, 3) := by decide +kernel
theorem dX0_shadeOf_12 : decode cX0_shadeOf 12 = .ok (.aload_n 0, 1) := by decide +kernel
theorem dX0_shadeOf_13 : decode cX0_shadeOf 13 = .ok (.iload_n 1, 1) := by decide +kernel
theorem dX0_shadeOf_14 : decode cX0_shadeOf 14 = .ok (.iload_n 3, 1) := by decide +kernel
theorem dX0_shadeOf_15 : decode cX0_shadeOf 15 = .ok (.invokevirtual 87, 3) := by decide +kernel
theorem dX0_shadeOf_18 : decode cX0_shadeOf 18 = .ok (.ifCond .eq 9, 3) := by decide +kernel
theorem dX0_shadeOf_21 : decode cX0_shadeOf 21 = .ok (.iload_n 2, 1) := by decide +kernel
theorem dX0_shadeOf_22 : decode cX0_shadeOf 22 = .ok (.iconst 1, 1) := by decide +kernel
theorem dX0_shadeOf_23 : decode cX0_shadeOf 23 = .ok (.iload_n 3, 1) := by decide +kernel
theorem dX0_shadeOf_24 : decode cX0_shadeOf 24 = .ok (.ishl, 1) := by decide +kernel
theorem dX0_shadeOf_25 : decode cX0_shadeOf 25 = .ok (.ior, 1) := by decide +kernel
theorem dX0_shadeOf_26 : decode cX0_shadeOf 26 = .ok (.istore_n 2, 1) := by decide +kernel
theorem dX0_shadeOf_27 : decode cX0_shadeOf 27 = .ok (.iinc 3 1, 3) := by decide +kernel
theorem dX0_shadeOf_30 : decode cX0_shadeOf 30 = .ok (.goto (-26), 3) := by decide +kernel
theorem dX0_shadeOf_33 : decode cX0_shadeOf 33 = .ok (.iload_n 2, 1) := by decide +kernel
theorem dX0_shadeOf_34 : decode cX0_shadeOf 34 = .ok (.ireturn, 1) := by decide +kernel
set_option maxRecDepth 20000 in
theorem ggX0_shadesAt_X0_isShading : GoodIn wsX0_shadesAt wsX0_isShading := goodIn_r _ [6, 7, 8, 9, 10, 11, 12, 16, 17, 18, 19, 20, 21, 22, 23, 24, 25, 26, 27, 28, 29] (by decide +kernel) (by decide +kernel)
set_option maxRecDepth 20000 in
theorem gX0_shadesAt_X0_isShading : GoodIn wsX0_shadesAt (wsV RX0 87 RX0 yX0_isShading wsX0_isShading) := goodIn_app (goodIn_of _ (by decide +kernel)) ggX0_shadesAt_X0_isShading
set_option maxRecDepth 20000 in
theorem ggX0_shadesAt_X6_asNumber : GoodIn wsX0_shadesAt wsX6_asNumber := goodIn_r _ [15] (by decide +kernel) (by decide +kernel)
set_option maxRecDepth 20000 in
theorem gX0_shadesAt_X6_asNumber_n91 : GoodIn wsX0_shadesAt (wsX6_asNumber) := ggX0_shadesAt_X6_asNumber
theorem dX0_shadesAt_0 : decode cX0_shadesAt 0 = .ok (.iconst 0, 1) := by decide +kernel
theorem dX0_shadesAt_1 : decode cX0_shadesAt 1 = .ok (.istore_n 2, 1) := by decide +kernel
theorem dX0_shadesAt_2 : decode cX0_shadesAt 2 = .ok (.iconst 0, 1) := by decide +kernel
theorem dX0_shadesAt_3 : decode cX0_shadesAt 3 = .ok (.istore_n 3, 1) := by decide +kernel
theorem dX0_shadesAt_4 : decode cX0_shadesAt 4 = .ok (.iload_n 3, 1) := by decide +kernel
theorem dX0_shadesAt_5 : decode cX0_shadesAt 5 = .ok (.aload_n 0, 1) := by decide +kernel
theorem dX0_shadesAt_6 : decode cX0_shadesAt 6 = .ok (.getfield 44, 3) := by decide +kernel
theorem dX0_shadesAt_9 : decode cX0_shadesAt 9 = .ok (.if_icmp .ge 21, 3) := by decide +kernel
theorem dX0_shadesAt_12 : decode cX0_shadesAt 12 = .ok (.iload_n 2, 1) := by decide +kernel
theorem dX0_shadesAt_13 : decode cX0_shadesAt 13 = .ok (.aload_n 0, 1) := by decide +kernel
theorem dX0_shadesAt_14 : decode cX0_shadesAt 14 = .ok (.iload_n 3, 1) := by decide +kernel
theorem dX0_shadesAt_15 : decode cX0_shadesAt 15 = .ok (.iload_n 1, 1) := by decide +kernel
theorem dX0_shadesAt_16 : decode cX0_shadesAt 16 = .ok (.invokevirtual 87, 3) := by decide +kernel
theorem dX0_shadesAt_19 : decode cX0_shadesAt 19 = .ok (.invokestatic 91, 3) := by decide +kernel
theorem dX0_shadesAt_22 : decode cX0_shadesAt 22 = .ok (.iadd, 1) := by decide +kernel
theorem dX0_shadesAt_23 : decode cX0_shadesAt 23 = .ok (.istore_n 2, 1) := by decide +kernel
theorem dX0_shadesAt_24 : decode cX0_shadesAt 24 = .ok (.iinc 3 1, 3) := by decide +kernel
theorem dX0_shadesAt_27 : decode cX0_shadesAt 27 = .ok (.goto (-23), 3) := by decide +kernel
theorem dX0_shadesAt_30 : decode cX0_shadesAt 30 = .ok (.iload_n 2, 1) := by decide +kernel
theorem dX0_shadesAt_31 : decode cX0_shadesAt 31 = .ok (.ireturn, 1) := by decide +kernel
set_option maxRecDepth 20000 in
theorem ggX0_treeOver_X0_isShading : GoodIn wsX0_treeOver wsX0_isShading := goodIn_r _ [7, 2, 8, 9, 10, 11, 12, 13, 14, 15, 16, 17, 18, 19, 20, 21, 22, 23, 24, 25, 26] (by decide +kernel) (by decide +kernel)
set_option maxRecDepth 20000 in
theorem gX0_treeOver_X0_isShading : GoodIn wsX0_treeOver (wsV RX0 87 RX0 yX0_isShading wsX0_isShading) := goodIn_app (goodIn_of _ (by decide +kernel)) ggX0_treeOver_X0_isShading
theorem dX0_treeOver_0 : decode cX0_treeOver 0 = .ok (.bipush (-9), 2) := by decide +kernel
theorem dX0_treeOver_2 : decode cX0_treeOver 2 = .ok (.istore_n 2, 1) := by decide +kernel
theorem dX0_treeOver_3 : decode cX0_treeOver 3 = .ok (.iconst 0, 1) := by decide +kernel
theorem dX0_treeOver_4 : decode cX0_treeOver 4 = .ok (.istore_n 3, 1) := by decide +kernel
theorem dX0_treeOver_5 : decode cX0_treeOver 5 = .ok (.iconst 0, 1) := by decide +kernel
theorem dX0_treeOver_6 : decode cX0_treeOver 6 = .ok (.istore 4, 2) := by decide +kernel
theorem dX0_treeOver_8 : decode cX0_treeOver 8 = .ok (.iload 4, 2) := by decide +kernel
theorem dX0_treeOver_10 : decode cX0_treeOver 10 = .ok (.aload_n 0, 1) := by decide +kernel
theorem dX0_treeOver_11 : decode cX0_treeOver 11 = .ok (.getfield 44, 3) := by decide +kernel
theorem dX0_treeOver_14 : decode cX0_treeOver 14 = .ok (.if_icmp .ge 41, 3) := by decide +kernel
theorem dX0_treeOver_17 : decode cX0_treeOver 17 = .ok (.aload_n 0, 1) := by decide +kernel
theorem dX0_treeOver_18 : decode cX0_treeOver 18 = .ok (.getfield 15, 3) := by decide +kernel
theorem dX0_treeOver_21 : decode cX0_treeOver 21 = .ok (.iload 4, 2) := by decide +kernel
theorem dX0_treeOver_23 : decode cX0_treeOver 23 = .ok (.iaload, 1) := by decide +kernel
theorem dX0_treeOver_24 : decode cX0_treeOver 24 = .ok (.iload_n 3, 1) := by decide +kernel
theorem dX0_treeOver_25 : decode cX0_treeOver 25 = .ok (.if_icmp .le 24, 3) := by decide +kernel
theorem dX0_treeOver_28 : decode cX0_treeOver 28 = .ok (.aload_n 0, 1) := by decide +kernel
theorem dX0_treeOver_29 : decode cX0_treeOver 29 = .ok (.iload 4, 2) := by decide +kernel
theorem dX0_treeOver_31 : decode cX0_treeOver 31 = .ok (.iload_n 1, 1) := by decide +kernel
theorem dX0_treeOver_32 : decode cX0_treeOver 32 = .ok (.invokevirtual 87, 3) := by decide +kernel
theorem dX0_treeOver_35 : decode cX0_treeOver 35 = .ok (.ifCond .eq 14, 3) := by decide +kernel
theorem dX0_treeOver_38 : decode cX0_treeOver 38 = .ok (.iload 4, 2) := by decide +kernel
theorem dX0_treeOver_40 : decode cX0_treeOver 40 = .ok (.istore_n 2, 1) := by decide +kernel
theorem dX0_treeOver_41 : decode cX0_treeOver 41 = .ok (.aload_n 0, 1) := by decide +kernel
theorem dX0_treeOver_42 : decode cX0_treeOver 42 = .ok (.getfield 15, 3) := by decide +kernel
theorem dX0_treeOver_45 : decode cX0_treeOver 45 = .ok (.iload 4, 2) := by decide +kernel
theorem dX0_treeOver_47 : decode cX0_treeOver 47 = .ok (.iaload, 1) := by decide +kernel
theorem dX0_treeOver_48 : decode cX0_treeOver 48 = .ok (.istore_n 3, 1) := by decide +kernel
theorem dX0_treeOver_49 : decode cX0_treeOver 49 = .ok (.iinc 4 1, 3) := by decide +kernel
theorem dX0_treeOver_52 : decode cX0_treeOver 52 = .ok (.goto (-44), 3) := by decide +kernel
theorem dX0_treeOver_55 : decode cX0_treeOver 55 = .ok (.iload_n 2, 1) := by decide +kernel
theorem dX0_treeOver_56 : decode cX0_treeOver 56 = .ok (.ireturn, 1) := by decide +kernel
set_option maxRecDepth 20000 in
theorem ggX0_voiceAt_X0_treeOver : GoodIn wsX0_voiceAt wsX0_treeOver := goodIn_r _ [6, 7, 8, 9, 10, 11, 5, 12, 13, 14, 15, 16, 17, 27, 28, 29, 30, 31, 32, 33, 34, 35, 36, 37, 38, 39, 40] (by decide +kernel) (by decide +kernel)
set_option maxRecDepth 20000 in
theorem gX0_voiceAt_X0_treeOver : GoodIn wsX0_voiceAt (wsV RX0 95 RX0 yX0_treeOver wsX0_treeOver) := goodIn_app (goodIn_of _ (by decide +kernel)) ggX0_voiceAt_X0_treeOver
set_option maxRecDepth 20000 in
theorem ggX0_voiceAt_X0_hasTree : GoodIn wsX0_voiceAt wsX0_hasTree := goodIn_r _ [21, 7, 22, 23, 24, 27, 28, 29, 30, 31, 32, 33, 34, 35, 36, 37, 38, 39, 40] (by decide +kernel) (by decide +kernel)
set_option maxRecDepth 20000 in
theorem gX0_voiceAt_X0_hasTree : GoodIn wsX0_voiceAt (wsV RX0 98 RX0 yX0_hasTree wsX0_hasTree) := goodIn_app (goodIn_of _ (by decide +kernel)) ggX0_voiceAt_X0_hasTree
set_option maxRecDepth 20000 in
theorem ggX0_voiceAt_X6_hasBit : GoodIn wsX0_voiceAt wsX6_hasBit := goodIn_r _ [26] (by decide +kernel) (by decide +kernel)
set_option maxRecDepth 20000 in
theorem gX0_voiceAt_X6_hasBit_n102 : GoodIn wsX0_voiceAt (wsX6_hasBit) := ggX0_voiceAt_X6_hasBit
theorem dX0_voiceAt_0 : decode cX0_voiceAt 0 = .ok (.aload_n 0, 1) := by decide +kernel
theorem dX0_voiceAt_1 : decode cX0_voiceAt 1 = .ok (.iload_n 1, 1) := by decide +kernel
theorem dX0_voiceAt_2 : decode cX0_voiceAt 2 = .ok (.invokevirtual 95, 3) := by decide +kernel
theorem dX0_voiceAt_5 : decode cX0_voiceAt 5 = .ok (.istore_n 3, 1) := by decide +kernel
theorem dX0_voiceAt_6 : decode cX0_voiceAt 6 = .ok (.aload_n 0, 1) := by decide +kernel
theorem dX0_voiceAt_7 : decode cX0_voiceAt 7 = .ok (.iload_n 3, 1) := by decide +kernel
theorem dX0_voiceAt_8 : decode cX0_voiceAt 8 = .ok (.invokevirtual 98, 3) := by decide +kernel
theorem dX0_voiceAt_11 : decode cX0_voiceAt 11 = .ok (.ifCond .ne 5, 3) := by decide +kernel
theorem dX0_voiceAt_14 : decode cX0_voiceAt 14 = .ok (.iconst 0, 1) := by decide +kernel
theorem dX0_voiceAt_15 : decode cX0_voiceAt 15 = .ok (.ireturn, 1) := by decide +kernel
theorem dX0_voiceAt_16 : decode cX0_voiceAt 16 = .ok (.aload_n 0, 1) := by decide +kernel
theorem dX0_voiceAt_17 : decode cX0_voiceAt 17 = .ok (.getfield 18, 3) := by decide +kernel
theorem dX0_voiceAt_20 : decode cX0_voiceAt 20 = .ok (.iload_n 3, 1) := by decide +kernel
theorem dX0_voiceAt_21 : decode cX0_voiceAt 21 = .ok (.iaload, 1) := by decide +kernel
theorem dX0_voiceAt_22 : decode cX0_voiceAt 22 = .ok (.iload_n 2, 1) := by decide +kernel
theorem dX0_voiceAt_23 : decode cX0_voiceAt 23 = .ok (.invokestatic 102, 3) := by decide +kernel
theorem dX0_voiceAt_26 : decode cX0_voiceAt 26 = .ok (.ifCond .eq 7, 3) := by decide +kernel
theorem dX0_voiceAt_29 : decode cX0_voiceAt 29 = .ok (.iconst 1, 1) := by decide +kernel
theorem dX0_voiceAt_30 : decode cX0_voiceAt 30 = .ok (.goto 4, 3) := by decide +kernel
theorem dX0_voiceAt_33 : decode cX0_voiceAt 33 = .ok (.iconst (-1), 1) := by decide +kernel
theorem dX0_voiceAt_34 : decode cX0_voiceAt 34 = .ok (.ireturn, 1) := by decide +kernel
set_option maxRecDepth 20000 in
theorem ggX0_weightBehind_X0_voiceAt : GoodIn wsX0_weightBehind wsX0_voiceAt := goodIn_r _ [8, 9, 10, 11, 12, 7, 13, 14, 15, 16, 17, 18, 19, 20, 21, 22, 23, 24, 25, 26, 27, 28, 29, 30, 31, 32, 33, 34, 35, 36, 37, 38, 39, 40, 41, 42, 43, 44, 45, 46, 47] (by decide +kernel) (by decide +kernel)
set_option maxRecDepth 20000 in
theorem gX0_weightBehind_X0_voiceAt : GoodIn wsX0_weightBehind (wsV RX0 105 RX0 yX0_voiceAt wsX0_voiceAt) := goodIn_app (goodIn_of _ (by decide +kernel)) ggX0_weightBehind_X0_voiceAt
theorem dX0_weightBehind_0 : decode cX0_weightBehind 0 = .ok (.iconst 0, 1) := by decide +kernel
theorem dX0_weightBehind_1 : decode cX0_weightBehind 1 = .ok (.istore_n 3, 1) := by decide +kernel
theorem dX0_weightBehind_2 : decode cX0_weightBehind 2 = .ok (.iconst 0, 1) := by decide +kernel
theorem dX0_weightBehind_3 : decode cX0_weightBehind 3 = .ok (.istore 4, 2) := by decide +kernel
theorem dX0_weightBehind_5 : decode cX0_weightBehind 5 = .ok (.iload 4, 2) := by decide +kernel
theorem dX0_weightBehind_7 : decode cX0_weightBehind 7 = .ok (.aload_n 0, 1) := by decide +kernel
theorem dX0_weightBehind_8 : decode cX0_weightBehind 8 = .ok (.getfield 47, 3) := by decide +kernel
theorem dX0_weightBehind_11 : decode cX0_weightBehind 11 = .ok (.if_icmp .ge 35, 3) := by decide +kernel
theorem dX0_weightBehind_14 : decode cX0_weightBehind 14 = .ok (.aload_n 0, 1) := by decide +kernel
theorem dX0_weightBehind_15 : decode cX0_weightBehind 15 = .ok (.aload_n 0, 1) := by decide +kernel
theorem dX0_weightBehind_16 : decode cX0_weightBehind 16 = .ok (.getfield 28, 3) := by decide +kernel
theorem dX0_weightBehind_19 : decode cX0_weightBehind 19 = .ok (.iload 4, 2) := by decide +kernel
theorem dX0_weightBehind_21 : decode cX0_weightBehind 21 = .ok (.iaload, 1) := by decide +kernel
theorem dX0_weightBehind_22 : decode cX0_weightBehind 22 = .ok (.iload_n 1, 1) := by decide +kernel
theorem dX0_weightBehind_23 : decode cX0_weightBehind 23 = .ok (.invokevirtual 105, 3) := by decide +kernel
theorem dX0_weightBehind_26 : decode cX0_weightBehind 26 = .ok (.iload_n 2, 1) := by decide +kernel
theorem dX0_weightBehind_27 : decode cX0_weightBehind 27 = .ok (.if_icmp .ne 13, 3) := by decide +kernel
theorem dX0_weightBehind_30 : decode cX0_weightBehind 30 = .ok (.iload_n 3, 1) := by decide +kernel
theorem dX0_weightBehind_31 : decode cX0_weightBehind 31 = .ok (.aload_n 0, 1) := by decide +kernel
theorem dX0_weightBehind_32 : decode cX0_weightBehind 32 = .ok (.getfield 31, 3) := by decide +kernel
theorem dX0_weightBehind_35 : decode cX0_weightBehind 35 = .ok (.iload 4, 2) := by decide +kernel
theorem dX0_weightBehind_37 : decode cX0_weightBehind 37 = .ok (.iaload, 1) := by decide +kernel
theorem dX0_weightBehind_38 : decode cX0_weightBehind 38 = .ok (.iadd, 1) := by decide +kernel
theorem dX0_weightBehind_39 : decode cX0_weightBehind 39 = .ok (.istore_n 3, 1) := by decide +kernel
theorem dX0_weightBehind_40 : decode cX0_weightBehind 40 = .ok (.iinc 4 1, 3) := by decide +kernel
theorem dX0_weightBehind_43 : decode cX0_weightBehind 43 = .ok (.goto (-38), 3) := by decide +kernel
theorem dX0_weightBehind_46 : decode cX0_weightBehind 46 = .ok (.iload_n 3, 1) := by decide +kernel
theorem dX0_weightBehind_47 : decode cX0_weightBehind 47 = .ok (.ireturn, 1) := by decide +kernel
set_option maxRecDepth 20000 in
theorem ggX0_voteOf_X0_voiceAt : GoodIn wsX0_voteOf wsX0_voiceAt := goodIn_r _ [7, 8, 9, 10, 11, 6, 12, 13, 14, 15, 16, 17, 18, 19, 20, 21, 22, 23, 24, 25, 26, 27, 28, 29, 30, 31, 32, 33, 34, 35, 36, 37, 38, 39, 40, 41, 42, 43, 44, 45, 46] (by decide +kernel) (by decide +kernel)
set_option maxRecDepth 20000 in
theorem gX0_voteOf_X0_voiceAt : GoodIn wsX0_voteOf (wsV RX0 105 RX0 yX0_voiceAt wsX0_voiceAt) := goodIn_app (goodIn_of _ (by decide +kernel)) ggX0_voteOf_X0_voiceAt
theorem dX0_voteOf_0 : decode cX0_voteOf 0 = .ok (.aload_n 0, 1) := by decide +kernel
theorem dX0_voteOf_1 : decode cX0_voteOf 1 = .ok (.aload_n 0, 1) := by decide +kernel
theorem dX0_voteOf_2 : decode cX0_voteOf 2 = .ok (.getfield 28, 3) := by decide +kernel
theorem dX0_voteOf_5 : decode cX0_voteOf 5 = .ok (.iload_n 1, 1) := by decide +kernel
theorem dX0_voteOf_6 : decode cX0_voteOf 6 = .ok (.iaload, 1) := by decide +kernel
theorem dX0_voteOf_7 : decode cX0_voteOf 7 = .ok (.iload_n 2, 1) := by decide +kernel
theorem dX0_voteOf_8 : decode cX0_voteOf 8 = .ok (.invokevirtual 105, 3) := by decide +kernel
theorem dX0_voteOf_11 : decode cX0_voteOf 11 = .ok (.aload_n 0, 1) := by decide +kernel
theorem dX0_voteOf_12 : decode cX0_voteOf 12 = .ok (.getfield 31, 3) := by decide +kernel
theorem dX0_voteOf_15 : decode cX0_voteOf 15 = .ok (.iload_n 1, 1) := by decide +kernel
theorem dX0_voteOf_16 : decode cX0_voteOf 16 = .ok (.iaload, 1) := by decide +kernel
theorem dX0_voteOf_17 : decode cX0_voteOf 17 = .ok (.imul, 1) := by decide +kernel
theorem dX0_voteOf_18 : decode cX0_voteOf 18 = .ok (.ireturn, 1) := by decide +kernel
set_option maxRecDepth 20000 in
theorem ggX0_isCarriedWithin_X0_columnOf : GoodIn wsX0_isCarriedWithin wsX0_columnOf := goodIn_r _ [7, 8, 42, 43, 44, 45, 46, 47, 48, 49, 50, 51, 52, 53, 54, 55] (by decide +kernel) (by decide +kernel)
set_option maxRecDepth 20000 in
theorem gX0_isCarriedWithin_X0_columnOf : GoodIn wsX0_isCarriedWithin (wsV RX0 84 RX0 yX0_columnOf wsX0_columnOf) := goodIn_app (goodIn_of _ (by decide +kernel)) ggX0_isCarriedWithin_X0_columnOf
set_option maxRecDepth 20000 in
theorem ggX0_isCarriedWithin_X6_isWithin : GoodIn wsX0_isCarriedWithin wsX6_isWithin := goodIn_r _ [11] (by decide +kernel) (by decide +kernel)
set_option maxRecDepth 20000 in
theorem gX0_isCarriedWithin_X6_isWithin_n64 : GoodIn wsX0_isCarriedWithin (wsX6_isWithin) := ggX0_isCarriedWithin_X6_isWithin
set_option maxRecDepth 20000 in
theorem ggX0_isCarriedWithin_X0_voteOf : GoodIn wsX0_isCarriedWithin wsX0_voteOf := goodIn_r _ [15, 2, 16, 17, 18, 19, 6, 20, 21, 22, 23, 24, 25, 26, 27, 28, 29, 30, 31, 32, 33, 8, 34, 35, 36, 37, 38, 39, 9, 10, 11, 40, 41, 42, 43, 44, 45, 46, 47, 48, 49, 50, 51, 52, 53, 54, 55] (by decide +kernel) (by decide +kernel)
set_option maxRecDepth 20000 in
theorem gX0_isCarriedWithin_X0_voteOf : GoodIn wsX0_isCarriedWithin (wsV RX0 108 RX0 yX0_voteOf wsX0_voteOf) := goodIn_app (goodIn_of _ (by decide +kernel)) ggX0_isCarriedWithin_X0_voteOf
theorem dX0_isCarriedWithin_0 : decode cX0_isCarriedWithin 0 = .ok (.iconst 0, 1) := by decide +kernel
theorem dX0_isCarriedWithin_1 : decode cX0_isCarriedWithin 1 = .ok (.istore 4, 2) := by decide +kernel
theorem dX0_isCarriedWithin_3 : decode cX0_isCarriedWithin 3 = .ok (.iconst 0, 1) := by decide +kernel
theorem dX0_isCarriedWithin_4 : decode cX0_isCarriedWithin 4 = .ok (.istore 5, 2) := by decide +kernel
theorem dX0_isCarriedWithin_6 : decode cX0_isCarriedWithin 6 = .ok (.iload 5, 2) := by decide +kernel
theorem dX0_isCarriedWithin_8 : decode cX0_isCarriedWithin 8 = .ok (.aload_n 0, 1) := by decide +kernel
theorem dX0_isCarriedWithin_9 : decode cX0_isCarriedWithin 9 = .ok (.getfield 47, 3) := by decide +kernel
theorem dX0_isCarriedWithin_12 : decode cX0_isCarriedWithin 12 = .ok (.if_icmp .ge 40, 3) := by decide +kernel
theorem dX0_isCarriedWithin_15 : decode cX0_isCarriedWithin 15 = .ok (.aload_n 0, 1) := by decide +kernel
theorem dX0_isCarriedWithin_16 : decode cX0_isCarriedWithin 16 = .ok (.aload_n 0, 1) := by decide +kernel
theorem dX0_isCarriedWithin_17 : decode cX0_isCarriedWithin 17 = .ok (.getfield 28, 3) := by decide +kernel
theorem dX0_isCarriedWithin_20 : decode cX0_isCarriedWithin 20 = .ok (.iload 5, 2) := by decide +kernel
theorem dX0_isCarriedWithin_22 : decode cX0_isCarriedWithin 22 = .ok (.iaload, 1) := by decide +kernel
theorem dX0_isCarriedWithin_23 : decode cX0_isCarriedWithin 23 = .ok (.invokevirtual 84, 3) := by decide +kernel
theorem dX0_isCarriedWithin_26 : decode cX0_isCarriedWithin 26 = .ok (.iload_n 2, 1) := by decide +kernel
theorem dX0_isCarriedWithin_27 : decode cX0_isCarriedWithin 27 = .ok (.iload_n 3, 1) := by decide +kernel
theorem dX0_isCarriedWithin_28 : decode cX0_isCarriedWithin 28 = .ok (.invokestatic 64, 3) := by decide +kernel
theorem dX0_isCarriedWithin_31 : decode cX0_isCarriedWithin 31 = .ok (.ifCond .eq 15, 3) := by decide +kernel
theorem dX0_isCarriedWithin_34 : decode cX0_isCarriedWithin 34 = .ok (.iload 4, 2) := by decide +kernel
theorem dX0_isCarriedWithin_36 : decode cX0_isCarriedWithin 36 = .ok (.aload_n 0, 1) := by decide +kernel
theorem dX0_isCarriedWithin_37 : decode cX0_isCarriedWithin 37 = .ok (.iload 5, 2) := by decide +kernel
theorem dX0_isCarriedWithin_39 : decode cX0_isCarriedWithin 39 = .ok (.iload_n 1, 1) := by decide +kernel
theorem dX0_isCarriedWithin_40 : decode cX0_isCarriedWithin 40 = .ok (.invokevirtual 108, 3) := by decide +kernel
theorem dX0_isCarriedWithin_43 : decode cX0_isCarriedWithin 43 = .ok (.iadd, 1) := by decide +kernel
theorem dX0_isCarriedWithin_44 : decode cX0_isCarriedWithin 44 = .ok (.istore 4, 2) := by decide +kernel
theorem dX0_isCarriedWithin_46 : decode cX0_isCarriedWithin 46 = .ok (.iinc 5 1, 3) := by decide +kernel
theorem dX0_isCarriedWithin_49 : decode cX0_isCarriedWithin 49 = .ok (.goto (-43), 3) := by decide +kernel
theorem dX0_isCarriedWithin_52 : decode cX0_isCarriedWithin 52 = .ok (.iload 4, 2) := by decide +kernel
theorem dX0_isCarriedWithin_54 : decode cX0_isCarriedWithin 54 = .ok (.ifCond .le 7, 3) := by decide +kernel
theorem dX0_isCarriedWithin_57 : decode cX0_isCarriedWithin 57 = .ok (.iconst 1, 1) := by decide +kernel
theorem dX0_isCarriedWithin_58 : decode cX0_isCarriedWithin 58 = .ok (.goto 4, 3) := by decide +kernel
theorem dX0_isCarriedWithin_61 : decode cX0_isCarriedWithin 61 = .ok (.iconst 0, 1) := by decide +kernel
theorem dX0_isCarriedWithin_62 : decode cX0_isCarriedWithin 62 = .ok (.ireturn, 1) := by decide +kernel
set_option maxRecDepth 20000 in
theorem ggX0_isCarried_X0_weightBehind : GoodIn wsX0_isCarried wsX0_weightBehind := goodIn_r _ [5, 6, 7, 8, 9, 10, 11, 4, 12, 13, 14, 15, 16, 17, 18, 19, 20, 21, 22, 23, 24, 25, 26, 27, 28, 29, 30, 31, 32, 33, 34, 35, 36, 37, 38, 39, 40, 41, 42, 43, 44, 45, 46, 47, 48, 49, 50, 51] (by decide +kernel) (by decide +kernel)
set_option maxRecDepth 20000 in
theorem gX0_isCarried_X0_weightBehind : GoodIn wsX0_isCarried (wsV RX0 111 RX0 yX0_weightBehind wsX0_weightBehind) := goodIn_app (goodIn_of _ (by decide +kernel)) ggX0_isCarried_X0_weightBehind
theorem dX0_isCarried_0 : decode cX0_isCarried 0 = .ok (.aload_n 0, 1) := by decide +kernel
theorem dX0_isCarried_1 : decode cX0_isCarried 1 = .ok (.iload_n 1, 1) := by decide +kernel
theorem dX0_isCarried_2 : decode cX0_isCarried 2 = .ok (.iconst 1, 1) := by decide +kernel
theorem dX0_isCarried_3 : decode cX0_isCarried 3 = .ok (.invokevirtual 111, 3) := by decide +kernel
theorem dX0_isCarried_6 : decode cX0_isCarried 6 = .ok (.aload_n 0, 1) := by decide +kernel
theorem dX0_isCarried_7 : decode cX0_isCarried 7 = .ok (.iload_n 1, 1) := by decide +kernel
theorem dX0_isCarried_8 : decode cX0_isCarried 8 = .ok (.iconst (-1), 1) := by decide +kernel
theorem dX0_isCarried_9 : decode cX0_isCarried 9 = .ok (.invokevirtual 111, 3) := by decide +kernel
theorem dX0_isCarried_12 : decode cX0_isCarried 12 = .ok (.if_icmp .le 7, 3) := by decide +kernel
theorem dX0_isCarried_15 : decode cX0_isCarried 15 = .ok (.iconst 1, 1) := by decide +kernel
theorem dX0_isCarried_16 : decode cX0_isCarried 16 = .ok (.goto 4, 3) := by decide +kernel
theorem dX0_isCarried_19 : decode cX0_isCarried 19 = .ok (.iconst 0, 1) := by decide +kernel
theorem dX0_isCarried_20 : decode cX0_isCarried 20 = .ok (.ireturn, 1) := by decide +kernel
set_option maxRecDepth 20000 in
theorem ggX0_weightUnder_X0_treeOver : GoodIn wsX0_weightUnder wsX0_treeOver := goodIn_r _ [8, 9, 10, 11, 12, 13, 7, 14, 15, 16, 17, 18, 19, 20, 21, 22, 23, 24, 25, 26, 27, 28, 29, 30, 31, 32, 33] (by decide +kernel) (by decide +kernel)
set_option maxRecDepth 20000 in
theorem gX0_weightUnder_X0_treeOver : GoodIn wsX0_weightUnder (wsV RX0 95 RX0 yX0_treeOver wsX0_treeOver) := goodIn_app (goodIn_of _ (by decide +kernel)) ggX0_weightUnder_X0_treeOver
theorem dX0_weightUnder_0 : decode cX0_weightUnder 0 = .ok (.iconst 0, 1) := by decide +kernel
theorem dX0_weightUnder_1 : decode cX0_weightUnder 1 = .ok (.istore_n 2, 1) := by decide +kernel
theorem dX0_weightUnder_2 : decode cX0_weightUnder 2 = .ok (.iconst 0, 1) := by decide +kernel
theorem dX0_weightUnder_3 : decode cX0_weightUnder 3 = .ok (.istore_n 3, 1) := by decide +kernel
theorem dX0_weightUnder_4 : decode cX0_weightUnder 4 = .ok (.iload_n 3, 1) := by decide +kernel
theorem dX0_weightUnder_5 : decode cX0_weightUnder 5 = .ok (.aload_n 0, 1) := by decide +kernel
theorem dX0_weightUnder_6 : decode cX0_weightUnder 6 = .ok (.getfield 47, 3) := by decide +kernel
theorem dX0_weightUnder_9 : decode cX0_weightUnder 9 = .ok (.if_icmp .ge 32, 3) := by decide +kernel
theorem dX0_weightUnder_12 : decode cX0_weightUnder 12 = .ok (.aload_n 0, 1) := by decide +kernel
theorem dX0_weightUnder_13 : decode cX0_weightUnder 13 = .ok (.aload_n 0, 1) := by decide +kernel
theorem dX0_weightUnder_14 : decode cX0_weightUnder 14 = .ok (.getfield 28, 3) := by decide +kernel
theorem dX0_weightUnder_17 : decode cX0_weightUnder 17 = .ok (.iload_n 3, 1) := by decide +kernel
theorem dX0_weightUnder_18 : decode cX0_weightUnder 18 = .ok (.iaload, 1) := by decide +kernel
theorem dX0_weightUnder_19 : decode cX0_weightUnder 19 = .ok (.invokevirtual 95, 3) := by decide +kernel
theorem dX0_weightUnder_22 : decode cX0_weightUnder 22 = .ok (.iload_n 1, 1) := by decide +kernel
theorem dX0_weightUnder_23 : decode cX0_weightUnder 23 = .ok (.if_icmp .ne 12, 3) := by decide +kernel
theorem dX0_weightUnder_26 : decode cX0_weightUnder 26 = .ok (.iload_n 2, 1) := by decide +kernel
theorem dX0_weightUnder_27 : decode cX0_weightUnder 27 = .ok (.aload_n 0, 1) := by decide +kernel
theorem dX0_weightUnder_28 : decode cX0_weightUnder 28 = .ok (.getfield 31, 3) := by decide +kernel
theorem dX0_weightUnder_31 : decode cX0_weightUnder 31 = .ok (.iload_n 3, 1) := by decide +kernel
theorem dX0_weightUnder_32 : decode cX0_weightUnder 32 = .ok (.iaload, 1) := by decide +kernel
theorem dX0_weightUnder_33 : decode cX0_weightUnder 33 = .ok (.iadd, 1) := by decide +kernel
theorem dX0_weightUnder_34 : decode cX0_weightUnder 34 = .ok (.istore_n 2, 1) := by decide +kernel
theorem dX0_weightUnder_35 : decode cX0_weightUnder 35 = .ok (.iinc 3 1, 3) := by decide +kernel
theorem dX0_weightUnder_38 : decode cX0_weightUnder 38 = .ok (.goto (-34), 3) := by decide +kernel
theorem dX0_weightUnder_41 : decode cX0_weightUnder 41 = .ok (.iload_n 2, 1) := by decide +kernel
theorem dX0_weightUnder_42 : decode cX0_weightUnder 42 = .ok (.ireturn, 1) := by decide +kernel
set_option maxRecDepth 20000 in
theorem ggX0_weightUnderTrees_X0_weightUnder : GoodIn wsX0_weightUnderTrees wsX0_weightUnder := goodIn_r _ [6, 7, 8, 9, 10, 11, 12, 5, 13, 1, 14, 15, 16, 17, 18, 19, 20, 21, 22, 23, 24, 25, 26, 27, 28, 29, 30, 31, 32, 33, 34, 35, 36, 37] (by decide +kernel) (by decide +kernel)
set_option maxRecDepth 20000 in
theorem gX0_weightUnderTrees_X0_weightUnder : GoodIn wsX0_weightUnderTrees (wsV RX0 114 RX0 yX0_weightUnder wsX0_weightUnder) := goodIn_app (goodIn_of _ (by decide +kernel)) ggX0_weightUnderTrees_X0_weightUnder
theorem dX0_weightUnderTrees_0 : decode cX0_weightUnderTrees 0 = .ok (.iconst 0, 1) := by decide +kernel
theorem dX0_weightUnderTrees_1 : decode cX0_weightUnderTrees 1 = .ok (.istore_n 1, 1) := by decide +kernel
theorem dX0_weightUnderTrees_2 : decode cX0_weightUnderTrees 2 = .ok (.iconst 0, 1) := by decide +kernel
theorem dX0_weightUnderTrees_3 : decode cX0_weightUnderTrees 3 = .ok (.istore_n 2, 1) := by decide +kernel
theorem dX0_weightUnderTrees_4 : decode cX0_weightUnderTrees 4 = .ok (.iload_n 2, 1) := by decide +kernel
theorem dX0_weightUnderTrees_5 : decode cX0_weightUnderTrees 5 = .ok (.aload_n 0, 1) := by decide +kernel
theorem dX0_weightUnderTrees_6 : decode cX0_weightUnderTrees 6 = .ok (.getfield 44, 3) := by decide +kernel
theorem dX0_weightUnderTrees_9 : decode cX0_weightUnderTrees 9 = .ok (.if_icmp .ge 17, 3) := by decide +kernel
theorem dX0_weightUnderTrees_12 : decode cX0_weightUnderTrees 12 = .ok (.iload_n 1, 1) := by decide +kernel
theorem dX0_weightUnderTrees_13 : decode cX0_weightUnderTrees 13 = .ok (.aload_n 0, 1) := by decide +kernel
theorem dX0_weightUnderTrees_14 : decode cX0_weightUnderTrees 14 = .ok (.iload_n 2, 1) := by decide +kernel
theorem dX0_weightUnderTrees_15 : decode cX0_weightUnderTrees 15 = .ok (.invokevirtual 114, 3) := by decide +kernel
theorem dX0_weightUnderTrees_18 : decode cX0_weightUnderTrees 18 = .ok (.iadd, 1) := by decide +kernel
theorem dX0_weightUnderTrees_19 : decode cX0_weightUnderTrees 19 = .ok (.istore_n 1, 1) := by decide +kernel
theorem dX0_weightUnderTrees_20 : decode cX0_weightUnderTrees 20 = .ok (.iinc 2 1, 3) := by decide +kernel
theorem dX0_weightUnderTrees_23 : decode cX0_weightUnderTrees 23 = .ok (.goto (-19), 3) := by decide +kernel
theorem dX0_weightUnderTrees_26 : decode cX0_weightUnderTrees 26 = .ok (.iload_n 1, 1) := by decide +kernel
theorem dX0_weightUnderTrees_27 : decode cX0_weightUnderTrees 27 = .ok (.ireturn, 1) := by decide +kernel
theorem dX1_init_0 : decode cX1_init 0 = .ok (.aload_n 0, 1) := by decide +kernel
theorem dX1_init_1 : decode cX1_init 1 = .ok (.invokespecial 3, 3) := by decide +kernel
theorem dX1_init_4 : decode cX1_init 4 = .ok (.return_, 1) := by decide +kernel
set_option maxRecDepth 20000 in
theorem ggX1_rateAs_X1_rateTree : GoodIn wsX1_rateAs wsX1_rateTree := goodIn_r _ [6, 7, 8, 74, 75, 76, 77, 78, 79, 80, 81, 82, 83, 84, 85, 86, 87, 88] (by decide +kernel) (by decide +kernel)
set_option maxRecDepth 20000 in
theorem gX1_rateAs_X1_rateTree : GoodIn wsX1_rateAs (wsV RX1 9 RX1 yX1_rateTree wsX1_rateTree) := goodIn_app (goodIn_of _ (by decide +kernel)) ggX1_rateAs_X1_rateTree
set_option maxRecDepth 20000 in
theorem ggX1_rateAs_X1_rateOak : GoodIn wsX1_rateAs wsX1_rateOak := goodIn_r _ [12, 7, 13, 2, 3, 4, 5, 6, 8, 14, 15, 16, 17, 18, 19, 20, 21, 22, 23, 24, 25, 26, 27, 28, 29, 30, 31, 32, 33, 34, 35, 36, 74, 75, 76, 77, 78, 79, 80, 81, 82, 83, 84, 85, 86, 87, 88] (by decide +kernel) (by decide +kernel)
set_option maxRecDepth 20000 in
theorem gX1_rateAs_X1_rateOak : GoodIn wsX1_rateAs (wsV RX1 15 RX1 yX1_rateOak wsX1_rateOak) := goodIn_app (goodIn_of _ (by decide +kernel)) ggX1_rateAs_X1_rateOak
set_option maxRecDepth 20000 in
theorem ggX1_rateAs_X1_ratePoplar : GoodIn wsX1_rateAs wsX1_ratePoplar := goodIn_r _ [40, 7, 41, 42, 2, 3, 4, 5, 6, 8, 74, 75, 76, 77, 78, 79, 80, 81, 82, 83, 84, 85, 86, 87, 88] (by decide +kernel) (by decide +kernel)
set_option maxRecDepth 20000 in
theorem gX1_rateAs_X1_ratePoplar : GoodIn wsX1_rateAs (wsV RX1 18 RX1 yX1_ratePoplar wsX1_ratePoplar) := goodIn_app (goodIn_of _ (by decide +kernel)) ggX1_rateAs_X1_ratePoplar
set_option maxRecDepth 20000 in
theorem ggX1_rateAs_X1_rateElder : GoodIn wsX1_rateAs wsX1_rateElder := goodIn_r _ [46, 7, 47, 9, 10, 11, 5, 12, 13, 2, 3, 4, 6, 8, 14, 15, 16, 17, 18, 19, 20, 21, 22, 23, 24, 25, 26, 27, 28, 29, 30, 31, 32, 33, 34, 35, 36, 74, 75, 76, 77, 78, 79, 80, 81, 82, 83, 84, 85, 86, 87, 88] (by decide +kernel) (by decide +kernel)
set_option maxRecDepth 20000 in
theorem gX1_rateAs_X1_rateElder : GoodIn wsX1_rateAs (wsV RX1 21 RX1 yX1_rateElder wsX1_rateElder) := goodIn_app (goodIn_of _ (by decide +kernel)) ggX1_rateAs_X1_rateElder
set_option maxRecDepth 20000 in
theorem ggX1_rateAs_X1_rateWillow : GoodIn wsX1_rateAs wsX1_rateWillow := goodIn_r _ [51, 7, 52, 37, 38, 39, 5, 40, 41, 42, 2, 3, 4, 6, 8, 74, 75, 76, 77, 78, 79, 80, 81, 82, 83, 84, 85, 86, 87, 88] (by decide +kernel) (by decide +kernel)
set_option maxRecDepth 20000 in
theorem gX1_rateAs_X1_rateWillow : GoodIn wsX1_rateAs (wsV RX1 24 RX1 yX1_rateWillow wsX1_rateWillow) := goodIn_app (goodIn_of _ (by decide +kernel)) ggX1_rateAs_X1_rateWillow
set_option maxRecDepth 20000 in
theorem ggX1_rateAs_X1_rateStump : GoodIn wsX1_rateAs wsX1_rateStump := goodIn_r _ [56, 7, 57, 2, 3, 4, 5, 6, 8, 58, 59, 60, 17, 61, 62, 63, 64, 65, 34, 66, 28, 29, 30, 31, 27, 32, 33, 35, 36, 67, 68, 69, 70, 71, 72, 73, 74, 75, 76, 77, 78, 79, 80, 81, 82, 83, 84, 85, 86, 87, 88] (by decide +kernel) (by decide +kernel)
set_option maxRecDepth 20000 in
theorem gX1_rateAs_X1_rateStump : GoodIn wsX1_rateAs (wsV RX1 27 RX1 yX1_rateStump wsX1_rateStump) := goodIn_app (goodIn_of _ (by decide +kernel)) ggX1_rateAs_X1_rateStump
theorem dX1_rateAs_0 : decode cX1_rateAs 0 = .ok (.iload_n 1, 1) := by decide +kernel
theorem dX1_rateAs_1 : decode cX1_rateAs 1 = .ok (.tableswitch 81 0 5 #[39, 46, 53, 60, 67, 74], 39) := by decide +kernel
theorem dX1_rateAs_40 : decode cX1_rateAs 40 = .ok (.aload_n 0, 1) := by decide +kernel
theorem dX1_rateAs_41 : decode cX1_rateAs 41 = .ok (.aload_n 2, 1) := by decide +kernel
theorem dX1_rateAs_42 : decode cX1_rateAs 42 = .ok (.iload_n 3, 1) := by decide +kernel
theorem dX1_rateAs_43 : decode cX1_rateAs 43 = .ok (.invokevirtual 9, 3) := by decide +kernel
theorem dX1_rateAs_46 : decode cX1_rateAs 46 = .ok (.ireturn, 1) := by decide +kernel
theorem dX1_rateAs_47 : decode cX1_rateAs 47 = .ok (.aload_n 0, 1) := by decide +kernel
theorem dX1_rateAs_48 : decode cX1_rateAs 48 = .ok (.aload_n 2, 1) := by decide +kernel
theorem dX1_rateAs_49 : decode cX1_rateAs 49 = .ok (.iload_n 3, 1) := by decide +kernel
theorem dX1_rateAs_50 : decode cX1_rateAs 50 = .ok (.invokevirtual 15, 3) := by decide +kernel
theorem dX1_rateAs_53 : decode cX1_rateAs 53 = .ok (.ireturn, 1) := by decide +kernel
theorem dX1_rateAs_54 : decode cX1_rateAs 54 = .ok (.aload_n 0, 1) := by decide +kernel
theorem dX1_rateAs_55 : decode cX1_rateAs 55 = .ok (.aload_n 2, 1) := by decide +kernel
theorem dX1_rateAs_56 : decode cX1_rateAs 56 = .ok (.iload_n 3, 1) := by decide +kernel
theorem dX1_rateAs_57 : decode cX1_rateAs 57 = .ok (.invokevirtual 18, 3) := by decide +kernel
theorem dX1_rateAs_60 : decode cX1_rateAs 60 = .ok (.ireturn, 1) := by decide +kernel
theorem dX1_rateAs_61 : decode cX1_rateAs 61 = .ok (.aload_n 0, 1) := by decide +kernel
theorem dX1_rateAs_62 : decode cX1_rateAs 62 = .ok (.aload_n 2, 1) := by decide +kernel
theorem dX1_rateAs_63 : decode cX1_rateAs 63 = .ok (.iload_n 3, 1) := by decide +kernel
theorem dX1_rateAs_64 : decode cX1_rateAs 64 = .ok (.invokevirtual 21, 3) := by decide +kernel
theorem dX1_rateAs_67 : decode cX1_rateAs 67 = .ok (.ireturn, 1) := by decide +kernel
theorem dX1_rateAs_68 : decode cX1_rateAs 68 = .ok (.aload_n 0, 1) := by decide +kernel
theorem dX1_rateAs_69 : decode cX1_rateAs 69 = .ok (.aload_n 2, 1) := by decide +kernel
theorem dX1_rateAs_70 : decode cX1_rateAs 70 = .ok (.iload_n 3, 1) := by decide +kernel
theorem dX1_rateAs_71 : decode cX1_rateAs 71 = .ok (.invokevirtual 24, 3) := by decide +kernel
theorem dX1_rateAs_74 : decode cX1_rateAs 74 = .ok (.ireturn, 1) := by decide +kernel
theorem dX1_rateAs_75 : decode cX1_rateAs 75 = .ok (.aload_n 0, 1) := by decide +kernel
theorem dX1_rateAs_76 : decode cX1_rateAs 76 = .ok (.aload_n 2, 1) := by decide +kernel
theorem dX1_rateAs_77 : decode cX1_rateAs 77 = .ok (.iload_n 3, 1) := by decide +kernel
theorem dX1_rateAs_78 : decode cX1_rateAs 78 = .ok (.invokevirtual 27, 3) := by decide +kernel
theorem dX1_rateAs_81 : decode cX1_rateAs 81 = .ok (.ireturn, 1) := by decide +kernel
theorem dX1_rateAs_82 : decode cX1_rateAs 82 = .ok (.ldc 30, 2) := by decide +kernel
theorem dX1_rateAs_84 : decode cX1_rateAs 84 = .ok (.ireturn, 1) := by decide +kernel
theorem dX1_rateTree_0 : decode cX1_rateTree 0 = .ok (.aload_n 0, 1) := by decide +kernel
theorem dX1_rateTree_1 : decode cX1_rateTree 1 = .ok (.dup, 1) := by decide +kernel
theorem dX1_rateTree_2 : decode cX1_rateTree 2 = .ok (.getfield 31, 3) := by decide +kernel
theorem dX1_rateTree_5 : decode cX1_rateTree 5 = .ok (.lconst 1, 1) := by decide +kernel
theorem dX1_rateTree_6 : decode cX1_rateTree 6 = .ok (.ladd, 1) := by decide +kernel
theorem dX1_rateTree_7 : decode cX1_rateTree 7 = .ok (.putfield 31, 3) := by decide +kernel
theorem dX1_rateTree_10 : decode cX1_rateTree 10 = .ok (.aload_n 1, 1) := by decide +kernel
theorem dX1_rateTree_11 : decode cX1_rateTree 11 = .ok (.getfield 35, 3) := by decide +kernel
theorem dX1_rateTree_14 : decode cX1_rateTree 14 = .ok (.iload_n 2, 1) := by decide +kernel
theorem dX1_rateTree_15 : decode cX1_rateTree 15 = .ok (.iaload, 1) := by decide +kernel
theorem dX1_rateTree_16 : decode cX1_rateTree 16 = .ok (.ireturn, 1) := by decide +kernel
set_option maxRecDepth 20000 in
theorem ggX1_rateOak_X1_rateTree : GoodIn wsX1_rateOak wsX1_rateTree := goodIn_r _ [7, 1, 8, 32, 33, 34, 35, 36, 37, 38, 39, 40, 41, 42, 43, 44, 45, 46] (by decide +kernel) (by decide +kernel)
set_option maxRecDepth 20000 in
theorem gX1_rateOak_X1_rateTree : GoodIn wsX1_rateOak (wsV RX1 9 RX1 yX1_rateTree wsX1_rateTree) := goodIn_app (goodIn_of _ (by decide +kernel)) ggX1_rateOak_X1_rateTree
set_option maxRecDepth 20000 in
theorem ggX1_rateOak_X0_weightUnder : GoodIn wsX1_rateOak wsX0_weightUnder := goodIn_r _ [13, 14, 15, 16, 17, 18, 19, 12, 20, 21, 22, 23, 24, 25, 26, 27, 28, 29, 30, 31, 33, 34, 35, 36, 37, 38, 39, 40, 41, 42, 43, 44, 45, 46] (by decide +kernel) (by decide +kernel)
set_option maxRecDepth 20000 in
theorem gX1_rateOak_X0_weightUnder : GoodIn wsX1_rateOak (wsV RX1 43 RX0 yX0_weightUnder wsX0_weightUnder) := goodIn_app (goodIn_of _ (by decide +kernel)) ggX1_rateOak_X0_weightUnder
theorem dX1_rateOak_0 : decode cX1_rateOak 0 = .ok (.aload_n 0, 1) := by decide +kernel
theorem dX1_rateOak_1 : decode cX1_rateOak 1 = .ok (.dup, 1) := by decide +kernel
theorem dX1_rateOak_2 : decode cX1_rateOak 2 = .ok (.getfield 31, 3) := by decide +kernel
theorem dX1_rateOak_5 : decode cX1_rateOak 5 = .ok (.ldc2_w 41, 3) := by decide +kernel
theorem dX1_rateOak_8 : decode cX1_rateOak 8 = .ok (.ladd, 1) := by decide +kernel
theorem dX1_rateOak_9 : decode cX1_rateOak 9 = .ok (.putfield 31, 3) := by decide +kernel
theorem dX1_rateOak_12 : decode cX1_rateOak 12 = .ok (.aload_n 0, 1) := by decide +kernel
theorem dX1_rateOak_13 : decode cX1_rateOak 13 = .ok (.aload_n 1, 1) := by decide +kernel
theorem dX1_rateOak_14 : decode cX1_rateOak 14 = .ok (.iload_n 2, 1) := by decide +kernel
theorem dX1_rateOak_15 : decode cX1_rateOak 15 = .ok (.invokevirtual 9, 3) := by decide +kernel
theorem dX1_rateOak_18 : decode cX1_rateOak 18 = .ok (.aload_n 1, 1) := by decide +kernel
theorem dX1_rateOak_19 : decode cX1_rateOak 19 = .ok (.iload_n 2, 1) := by decide +kernel
theorem dX1_rateOak_20 : decode cX1_rateOak 20 = .ok (.invokevirtual 43, 3) := by decide +kernel
theorem dX1_rateOak_23 : decode cX1_rateOak 23 = .ok (.iadd, 1) := by decide +kernel
theorem dX1_rateOak_24 : decode cX1_rateOak 24 = .ok (.ireturn, 1) := by decide +kernel
set_option maxRecDepth 20000 in
theorem ggX1_ratePoplar_X1_rateTree : GoodIn wsX1_ratePoplar wsX1_rateTree := goodIn_r _ [8, 1, 9, 10, 11, 12, 13, 14, 15, 16, 17, 18, 19, 20, 21, 22, 23, 24] (by decide +kernel) (by decide +kernel)
set_option maxRecDepth 20000 in
theorem gX1_ratePoplar_X1_rateTree : GoodIn wsX1_ratePoplar (wsV RX1 9 RX1 yX1_rateTree wsX1_rateTree) := goodIn_app (goodIn_of _ (by decide +kernel)) ggX1_ratePoplar_X1_rateTree
theorem dX1_ratePoplar_0 : decode cX1_ratePoplar 0 = .ok (.aload_n 0, 1) := by decide +kernel
theorem dX1_ratePoplar_1 : decode cX1_ratePoplar 1 = .ok (.dup, 1) := by decide +kernel
theorem dX1_ratePoplar_2 : decode cX1_ratePoplar 2 = .ok (.getfield 31, 3) := by decide +kernel
theorem dX1_ratePoplar_5 : decode cX1_ratePoplar 5 = .ok (.ldc2_w 47, 3) := by decide +kernel
theorem dX1_ratePoplar_8 : decode cX1_ratePoplar 8 = .ok (.ladd, 1) := by decide +kernel
theorem dX1_ratePoplar_9 : decode cX1_ratePoplar 9 = .ok (.putfield 31, 3) := by decide +kernel
theorem dX1_ratePoplar_12 : decode cX1_ratePoplar 12 = .ok (.aload_n 0, 1) := by decide +kernel
theorem dX1_ratePoplar_13 : decode cX1_ratePoplar 13 = .ok (.aload_n 1, 1) := by decide +kernel
theorem dX1_ratePoplar_14 : decode cX1_ratePoplar 14 = .ok (.iload_n 2, 1) := by decide +kernel
theorem dX1_ratePoplar_15 : decode cX1_ratePoplar 15 = .ok (.invokevirtual 9, 3) := by decide +kernel
theorem dX1_ratePoplar_18 : decode cX1_ratePoplar 18 = .ok (.aload_n 1, 1) := by decide +kernel
theorem dX1_ratePoplar_19 : decode cX1_ratePoplar 19 = .ok (.getfield 49, 3) := by decide +kernel
theorem dX1_ratePoplar_22 : decode cX1_ratePoplar 22 = .ok (.iload_n 2, 1) := by decide +kernel
theorem dX1_ratePoplar_23 : decode cX1_ratePoplar 23 = .ok (.iaload, 1) := by decide +kernel
theorem dX1_ratePoplar_24 : decode cX1_ratePoplar 24 = .ok (.isub, 1) := by decide +kernel
theorem dX1_ratePoplar_25 : decode cX1_ratePoplar 25 = .ok (.ireturn, 1) := by decide +kernel
set_option maxRecDepth 20000 in
theorem ggX1_rateElder_X1_rateOak : GoodIn wsX1_rateElder wsX1_rateOak := goodIn_r _ [7, 1, 8, 9, 10, 11, 6, 12, 13, 14, 15, 16, 17, 18, 19, 20, 21, 22, 23, 24, 25, 26, 27, 28, 29, 30, 31, 32, 33, 34, 35, 36, 37, 38, 39, 40, 41, 42, 43, 44, 45, 46, 47, 48, 49, 50, 51] (by decide +kernel) (by decide +kernel)
set_option maxRecDepth 20000 in
theorem gX1_rateElder_X1_rateOak : GoodIn wsX1_rateElder (wsV RX1 15 RX1 yX1_rateOak wsX1_rateOak) := goodIn_app (goodIn_of _ (by decide +kernel)) ggX1_rateElder_X1_rateOak
theorem dX1_rateElder_0 : decode cX1_rateElder 0 = .ok (.aload_n 0, 1) := by decide +kernel
theorem dX1_rateElder_1 : decode cX1_rateElder 1 = .ok (.dup, 1) := by decide +kernel
theorem dX1_rateElder_2 : decode cX1_rateElder 2 = .ok (.getfield 31, 3) := by decide +kernel
theorem dX1_rateElder_5 : decode cX1_rateElder 5 = .ok (.ldc2_w 52, 3) := by decide +kernel
theorem dX1_rateElder_8 : decode cX1_rateElder 8 = .ok (.ladd, 1) := by decide +kernel
theorem dX1_rateElder_9 : decode cX1_rateElder 9 = .ok (.putfield 31, 3) := by decide +kernel
theorem dX1_rateElder_12 : decode cX1_rateElder 12 = .ok (.iconst 2, 1) := by decide +kernel
theorem dX1_rateElder_13 : decode cX1_rateElder 13 = .ok (.aload_n 0, 1) := by decide +kernel
theorem dX1_rateElder_14 : decode cX1_rateElder 14 = .ok (.aload_n 1, 1) := by decide +kernel
theorem dX1_rateElder_15 : decode cX1_rateElder 15 = .ok (.iload_n 2, 1) := by decide +kernel
theorem dX1_rateElder_16 : decode cX1_rateElder 16 = .ok (.invokevirtual 15, 3) := by decide +kernel
theorem dX1_rateElder_19 : decode cX1_rateElder 19 = .ok (.imul, 1) := by decide +kernel
theorem dX1_rateElder_20 : decode cX1_rateElder 20 = .ok (.ireturn, 1) := by decide +kernel
set_option maxRecDepth 20000 in
theorem ggX1_rateWillow_X1_ratePoplar : GoodIn wsX1_rateWillow wsX1_ratePoplar := goodIn_r _ [7, 1, 8, 9, 10, 11, 12, 6, 13, 14, 15, 16, 17, 18, 19, 20, 21, 22, 23, 24, 25, 26, 27, 28, 29] (by decide +kernel) (by decide +kernel)
set_option maxRecDepth 20000 in
theorem gX1_rateWillow_X1_ratePoplar : GoodIn wsX1_rateWillow (wsV RX1 18 RX1 yX1_ratePoplar wsX1_ratePoplar) := goodIn_app (goodIn_of _ (by decide +kernel)) ggX1_rateWillow_X1_ratePoplar
theorem dX1_rateWillow_0 : decode cX1_rateWillow 0 = .ok (.aload_n 0, 1) := by decide +kernel
theorem dX1_rateWillow_1 : decode cX1_rateWillow 1 = .ok (.dup, 1) := by decide +kernel
theorem dX1_rateWillow_2 : decode cX1_rateWillow 2 = .ok (.getfield 31, 3) := by decide +kernel
theorem dX1_rateWillow_5 : decode cX1_rateWillow 5 = .ok (.ldc2_w 54, 3) := by decide +kernel
theorem dX1_rateWillow_8 : decode cX1_rateWillow 8 = .ok (.ladd, 1) := by decide +kernel
theorem dX1_rateWillow_9 : decode cX1_rateWillow 9 = .ok (.putfield 31, 3) := by decide +kernel
theorem dX1_rateWillow_12 : decode cX1_rateWillow 12 = .ok (.aload_n 0, 1) := by decide +kernel
theorem dX1_rateWillow_13 : decode cX1_rateWillow 13 = .ok (.aload_n 1, 1) := by decide +kernel
theorem dX1_rateWillow_14 : decode cX1_rateWillow 14 = .ok (.iload_n 2, 1) := by decide +kernel
theorem dX1_rateWillow_15 : decode cX1_rateWillow 15 = .ok (.invokevirtual 18, 3) := by decide +kernel
theorem dX1_rateWillow_18 : decode cX1_rateWillow 18 = .ok (.iload_n 2, 1) := by decide +kernel
theorem dX1_rateWillow_19 : decode cX1_rateWillow 19 = .ok (.iadd, 1) := by decide +kernel
theorem dX1_rateWillow_20 : decode cX1_rateWillow 20 = .ok (.ireturn, 1) := by decide +kernel
set_option maxRecDepth 20000 in
theorem ggX1_rateStump_X1_rateTree : GoodIn wsX1_rateStump wsX1_rateTree := goodIn_r _ [7, 1, 8, 36, 37, 38, 39, 40, 41, 42, 43, 44, 45, 46, 47, 48, 49, 50] (by decide +kernel) (by decide +kernel)
set_option maxRecDepth 20000 in
theorem gX1_rateStump_X1_rateTree : GoodIn wsX1_rateStump (wsV RX1 9 RX1 yX1_rateTree wsX1_rateTree) := goodIn_app (goodIn_of _ (by decide +kernel)) ggX1_rateStump_X1_rateTree
set_option maxRecDepth 20000 in
theorem ggX1_rateStump_X0_shadeOf : GoodIn wsX1_rateStump wsX0_shadeOf := goodIn_r _ [13, 14, 15, 16, 12, 17, 18, 19, 20, 21, 22, 23, 24, 25, 26, 27, 28, 37, 38, 39, 40, 41, 42, 43, 44, 45, 46, 47, 48, 49, 50] (by decide +kernel) (by decide +kernel)
set_option maxRecDepth 20000 in
theorem gX1_rateStump_X0_shadeOf : GoodIn wsX1_rateStump (wsV RX1 58 RX0 yX0_shadeOf wsX0_shadeOf) := goodIn_app (goodIn_of _ (by decide +kernel)) ggX1_rateStump_X0_shadeOf
set_option maxRecDepth 20000 in
theorem ggX1_rateStump_J6_bitCount_0f7a4 : GoodIn wsX1_rateStump wsJ6_bitCount_0f7a4 := goodIn_r _ [32, 33, 34, 35] (by decide +kernel) (by decide +kernel)
set_option maxRecDepth 20000 in
theorem gX1_rateStump_J6_bitCount_0f7a4 : GoodIn wsX1_rateStump (va_wsS RX1 61 yJ6_bitCount_0f7a4 wsJ6_bitCount_0f7a4) := goodIn_app (goodIn_of _ (by decide +kernel)) ggX1_rateStump_J6_bitCount_0f7a4
theorem dX1_rateStump_0 : decode cX1_rateStump 0 = .ok (.aload_n 0, 1) := by decide +kernel
theorem dX1_rateStump_1 : decode cX1_rateStump 1 = .ok (.dup, 1) := by decide +kernel
theorem dX1_rateStump_2 : decode cX1_rateStump 2 = .ok (.getfield 31, 3) := by decide +kernel
theorem dX1_rateStump_5 : decode cX1_rateStump 5 = .ok (.ldc2_w 56, 3) := by decide +kernel
theorem dX1_rateStump_8 : decode cX1_rateStump 8 = .ok (.ladd, 1) := by decide +kernel
theorem dX1_rateStump_9 : decode cX1_rateStump 9 = .ok (.putfield 31, 3) := by decide +kernel
theorem dX1_rateStump_12 : decode cX1_rateStump 12 = .ok (.aload_n 0, 1) := by decide +kernel
theorem dX1_rateStump_13 : decode cX1_rateStump 13 = .ok (.aload_n 1, 1) := by decide +kernel
theorem dX1_rateStump_14 : decode cX1_rateStump 14 = .ok (.iload_n 2, 1) := by decide +kernel
theorem dX1_rateStump_15 : decode cX1_rateStump 15 = .ok (.invokevirtual 9, 3) := by decide +kernel
theorem dX1_rateStump_18 : decode cX1_rateStump 18 = .ok (.aload_n 1, 1) := by decide +kernel
theorem dX1_rateStump_19 : decode cX1_rateStump 19 = .ok (.iload_n 2, 1) := by decide +kernel
theorem dX1_rateStump_20 : decode cX1_rateStump 20 = .ok (.invokevirtual 58, 3) := by decide +kernel
theorem dX1_rateStump_23 : decode cX1_rateStump 23 = .ok (.invokestatic 61, 3) := by decide +kernel
theorem dX1_rateStump_26 : decode cX1_rateStump 26 = .ok (.iadd, 1) := by decide +kernel
theorem dX1_rateStump_27 : decode cX1_rateStump 27 = .ok (.ireturn, 1) := by decide +kernel
set_option maxRecDepth 20000 in
theorem ggX2_init_X0_init : GoodIn wsX2_init wsX0_init := goodIn_r _ [10, 11, 2, 3, 12, 13, 14, 15, 16, 17, 18, 19, 20, 21, 22, 23, 7, 24, 25, 26, 27, 28, 29, 30, 31, 35, 36, 37, 38, 39, 40, 41, 42, 43, 44, 45, 46, 47, 48] (by decide +kernel) (by decide +kernel)
set_option maxRecDepth 20000 in
theorem gX2_init_X0_init : GoodIn wsX2_init (wsX0_init) := ggX2_init_X0_init
theorem dX2_init_0 : decode cX2_init 0 = .ok (.aload_n 0, 1) := by decide +kernel
theorem dX2_init_1 : decode cX2_init 1 = .ok (.invokespecial 3, 3) := by decide +kernel
theorem dX2_init_4 : decode cX2_init 4 = .ok (.aload_n 0, 1) := by decide +kernel
theorem dX2_init_5 : decode cX2_init 5 = .ok (.bipush 10, 2) := by decide +kernel
theorem dX2_init_7 : decode cX2_init 7 = .ok (.anewarray 9, 3) := by decide +kernel
theorem dX2_init_10 : decode cX2_init 10 = .ok (.putfield 11, 3) := by decide +kernel
theorem dX2_init_13 : decode cX2_init 13 = .ok (.iconst 0, 1) := by decide +kernel
theorem dX2_init_14 : decode cX2_init 14 = .ok (.istore_n 1, 1) := by decide +kernel
theorem dX2_init_15 : decode cX2_init 15 = .ok (.iload_n 1, 1) := by decide +kernel
theorem dX2_init_16 : decode cX2_init 16 = .ok (.bipush 10, 2) := by decide +kernel
theorem dX2_init_18 : decode cX2_init 18 = .ok (.if_icmp .ge 22, 3) := by decide +kernel
theorem dX2_init_21 : decode cX2_init 21 = .ok (.aload_n 0, 1) := by decide +kernel
theorem dX2_init_22 : decode cX2_init 22 = .ok (.getfield 11, 3) := by decide +kernel
theorem dX2_init_25 : decode cX2_init 25 = .ok (.iload_n 1, 1) := by decide +kernel
theorem dX2_init_26 : decode cX2_init 26 = .ok (.new 9, 3) := by decide +kernel
theorem dX2_init_29 : decode cX2_init 29 = .ok (.dup, 1) := by decide +kernel
theorem dX2_init_30 : decode cX2_init 30 = .ok (.invokespecial 17, 3) := by decide +kernel
theorem dX2_init_33 : decode cX2_init 33 = .ok (.aastore, 1) := by decide +kernel
theorem dX2_init_34 : decode cX2_init 34 = .ok (.iinc 1 1, 3) := by decide +kernel
theorem dX2_init_37 : decode cX2_init 37 = .ok (.goto (-22), 3) := by decide +kernel
theorem dX2_init_40 : decode cX2_init 40 = .ok (.return_, 1) := by decide +kernel
set_option maxRecDepth 20000 in
theorem ggX2_remember_X0_become : GoodIn wsX2_remember wsX0_become := goodIn_r _ [12, 13, 14, 15, 16, 17, 18, 19, 20, 21, 22, 23, 24, 25, 26, 30, 31, 32, 33, 34, 35, 36, 37, 38, 39, 40, 41, 42, 43] (by decide +kernel) (by decide +kernel)
set_option maxRecDepth 20000 in
theorem gX2_remember_X0_become : GoodIn wsX2_remember (wsV RX2 22 RX0 yX0_become wsX0_become) := goodIn_app (goodIn_of _ (by decide +kernel)) ggX2_remember_X0_become
theorem dX2_remember_0 : decode cX2_remember 0 = .ok (.aload_n 0, 1) := by decide +kernel
theorem dX2_remember_1 : decode cX2_remember 1 = .ok (.getfield 11, 3) := by decide +kernel
theorem dX2_remember_4 : decode cX2_remember 4 = .ok (.aload_n 0, 1) := by decide +kernel
theorem dX2_remember_5 : decode cX2_remember 5 = .ok (.getfield 18, 3) := by decide +kernel
theorem dX2_remember_8 : decode cX2_remember 8 = .ok (.aaload, 1) := by decide +kernel
theorem dX2_remember_9 : decode cX2_remember 9 = .ok (.aload_n 1, 1) := by decide +kernel
theorem dX2_remember_10 : decode cX2_remember 10 = .ok (.invokevirtual 22, 3) := by decide +kernel
theorem dX2_remember_13 : decode cX2_remember 13 = .ok (.aload_n 0, 1) := by decide +kernel
theorem dX2_remember_14 : decode cX2_remember 14 = .ok (.aload_n 0, 1) := by decide +kernel
theorem dX2_remember_15 : decode cX2_remember 15 = .ok (.getfield 18, 3) := by decide +kernel
theorem dX2_remember_18 : decode cX2_remember 18 = .ok (.iconst 1, 1) := by decide +kernel
theorem dX2_remember_19 : decode cX2_remember 19 = .ok (.iadd, 1) := by decide +kernel
theorem dX2_remember_20 : decode cX2_remember 20 = .ok (.bipush 10, 2) := by decide +kernel
theorem dX2_remember_22 : decode cX2_remember 22 = .ok (.irem, 1) := by decide +kernel
theorem dX2_remember_23 : decode cX2_remember 23 = .ok (.putfield 18, 3) := by decide +kernel
theorem dX2_remember_26 : decode cX2_remember 26 = .ok (.aload_n 0, 1) := by decide +kernel
theorem dX2_remember_27 : decode cX2_remember 27 = .ok (.aload_n 0, 1) := by decide +kernel
theorem dX2_remember_28 : decode cX2_remember 28 = .ok (.getfield 26, 3) := by decide +kernel
theorem dX2_remember_31 : decode cX2_remember 31 = .ok (.iconst 1, 1) := by decide +kernel
theorem dX2_remember_32 : decode cX2_remember 32 = .ok (.iadd, 1) := by decide +kernel
theorem dX2_remember_33 : decode cX2_remember 33 = .ok (.bipush 10, 2) := by decide +kernel
theorem dX2_remember_35 : decode cX2_remember 35 = .ok (.invokestatic 29, 3) := by decide +kernel
theorem dX2_remember_38 : decode cX2_remember 38 = .ok (.putfield 26, 3) := by decide +kernel
theorem dX2_remember_41 : decode cX2_remember 41 = .ok (.return_, 1) := by decide +kernel
set_option maxRecDepth 20000 in
theorem ggX2_restore_X0_become : GoodIn wsX2_restore wsX0_become := goodIn_r _ [8, 9, 10, 11, 12, 13, 14, 15, 16, 17, 18, 19, 20, 21, 22, 26, 27, 28, 29, 30, 31, 32, 33, 34, 35, 36, 37, 38, 39] (by decide +kernel) (by decide +kernel)
set_option maxRecDepth 20000 in
theorem gX2_restore_X0_become : GoodIn wsX2_restore (wsV RX2 22 RX0 yX0_become wsX0_become) := goodIn_app (goodIn_of _ (by decide +kernel)) ggX2_restore_X0_become
theorem dX2_restore_0 : decode cX2_restore 0 = .ok (.aload_n 0, 1) := by decide +kernel
theorem dX2_restore_1 : decode cX2_restore 1 = .ok (.getfield 26, 3) := by decide +kernel
theorem dX2_restore_4 : decode cX2_restore 4 = .ok (.ifCond .ne 4, 3) := by decide +kernel
theorem dX2_restore_7 : decode cX2_restore 7 = .ok (.return_, 1) := by decide +kernel
theorem dX2_restore_8 : decode cX2_restore 8 = .ok (.aload_n 0, 1) := by decide +kernel
theorem dX2_restore_9 : decode cX2_restore 9 = .ok (.aload_n 0, 1) := by decide +kernel
theorem dX2_restore_10 : decode cX2_restore 10 = .ok (.getfield 18, 3) := by decide +kernel
theorem dX2_restore_13 : decode cX2_restore 13 = .ok (.bipush 10, 2) := by decide +kernel
theorem dX2_restore_15 : decode cX2_restore 15 = .ok (.iadd, 1) := by decide +kernel
theorem dX2_restore_16 : decode cX2_restore 16 = .ok (.iconst 1, 1) := by decide +kernel
theorem dX2_restore_17 : decode cX2_restore 17 = .ok (.isub, 1) := by decide +kernel
theorem dX2_restore_18 : decode cX2_restore 18 = .ok (.bipush 10, 2) := by decide +kernel
theorem dX2_restore_20 : decode cX2_restore 20 = .ok (.irem, 1) := by decide +kernel
theorem dX2_restore_21 : decode cX2_restore 21 = .ok (.putfield 18, 3) := by decide +kernel
theorem dX2_restore_24 : decode cX2_restore 24 = .ok (.aload_n 0, 1) := by decide +kernel
theorem dX2_restore_25 : decode cX2_restore 25 = .ok (.dup, 1) := by decide +kernel
theorem dX2_restore_26 : decode cX2_restore 26 = .ok (.getfield 26, 3) := by decide +kernel
theorem dX2_restore_29 : decode cX2_restore 29 = .ok (.iconst 1, 1) := by decide +kernel
theorem dX2_restore_30 : decode cX2_restore 30 = .ok (.isub, 1) := by decide +kernel
theorem dX2_restore_31 : decode cX2_restore 31 = .ok (.putfield 26, 3) := by decide +kernel
theorem dX2_restore_34 : decode cX2_restore 34 = .ok (.aload_n 1, 1) := by decide +kernel
theorem dX2_restore_35 : decode cX2_restore 35 = .ok (.aload_n 0, 1) := by decide +kernel
theorem dX2_restore_36 : decode cX2_restore 36 = .ok (.getfield 11, 3) := by decide +kernel
theorem dX2_restore_39 : decode cX2_restore 39 = .ok (.aload_n 0, 1) := by decide +kernel
theorem dX2_restore_40 : decode cX2_restore 40 = .ok (.getfield 18, 3) := by decide +kernel
theorem dX2_restore_43 : decode cX2_restore 43 = .ok (.aaload, 1) := by decide +kernel
theorem dX2_restore_44 : decode cX2_restore 44 = .ok (.invokevirtual 22, 3) := by decide +kernel
theorem dX2_restore_47 : decode cX2_restore 47 = .ok (.return_, 1) := by decide +kernel
theorem dX2_lose_0 : decode cX2_lose 0 = .ok (.aload_n 0, 1) := by decide +kernel
theorem dX2_lose_1 : decode cX2_lose 1 = .ok (.iconst 0, 1) := by decide +kernel
theorem dX2_lose_2 : decode cX2_lose 2 = .ok (.putfield 26, 3) := by decide +kernel
theorem dX2_lose_5 : decode cX2_lose 5 = .ok (.return_, 1) := by decide +kernel
set_option maxRecDepth 20000 in
theorem ggX3_init_X0_init : GoodIn wsX3_init wsX0_init := goodIn_r _ [13, 14, 2, 3, 8, 15, 16, 17, 18, 19, 20, 21, 22, 23, 24, 25, 6, 26, 27, 28, 29, 30, 31, 32, 33, 34, 35, 36, 37, 38, 39, 40, 41, 42, 43, 44, 45, 46, 47] (by decide +kernel) (by decide +kernel)
set_option maxRecDepth 20000 in
theorem gX3_init_X0_init : GoodIn wsX3_init (wsX0_init) := ggX3_init_X0_init
theorem dX3_init_0 : decode cX3_init 0 = .ok (.aload_n 0, 1) := by decide +kernel
theorem dX3_init_1 : decode cX3_init 1 = .ok (.invokespecial 3, 3) := by decide +kernel
theorem dX3_init_4 : decode cX3_init 4 = .ok (.aload_n 0, 1) := by decide +kernel
theorem dX3_init_5 : decode cX3_init 5 = .ok (.new 9, 3) := by decide +kernel
theorem dX3_init_8 : decode cX3_init 8 = .ok (.dup, 1) := by decide +kernel
theorem dX3_init_9 : decode cX3_init 9 = .ok (.invokespecial 11, 3) := by decide +kernel
theorem dX3_init_12 : decode cX3_init 12 = .ok (.putfield 12, 3) := by decide +kernel
theorem dX3_init_15 : decode cX3_init 15 = .ok (.aload_n 0, 1) := by decide +kernel
theorem dX3_init_16 : decode cX3_init 16 = .ok (.bipush 7, 2) := by decide +kernel
theorem dX3_init_18 : decode cX3_init 18 = .ok (.newarray .int, 2) := by decide +kernel
theorem dX3_init_20 : decode cX3_init 20 = .ok (.putfield 18, 3) := by decide +kernel
theorem dX3_init_23 : decode cX3_init 23 = .ok (.aload_n 0, 1) := by decide +kernel
theorem dX3_init_24 : decode cX3_init 24 = .ok (.bipush 7, 2) := by decide +kernel
theorem dX3_init_26 : decode cX3_init 26 = .ok (.newarray .int, 2) := by decide +kernel
theorem dX3_init_28 : decode cX3_init 28 = .ok (.putfield 22, 3) := by decide +kernel
theorem dX3_init_31 : decode cX3_init 31 = .ok (.return_, 1) := by decide +kernel
set_option maxRecDepth 20000 in
theorem ggX3_fewestMovers_X0_voteOf : GoodIn wsX3_fewestMovers wsX0_voteOf := goodIn_r _ [8, 9, 10, 11, 12, 13, 7, 14, 15, 16, 17, 18, 19, 20, 21, 22, 23, 24, 25, 26, 27, 28, 29, 30, 31, 32, 33, 34, 35, 36, 37, 38, 39, 82, 83, 84, 85, 86, 87, 88, 89, 90, 91, 92, 93, 94, 95] (by decide +kernel) (by decide +kernel)
set_option maxRecDepth 20000 in
theorem gX3_fewestMovers_X0_voteOf : GoodIn wsX3_fewestMovers (wsV RX3 29 RX0 yX0_voteOf wsX0_voteOf) := goodIn_app (goodIn_of _ (by decide +kernel)) ggX3_fewestMovers_X0_voteOf
set_option maxRecDepth 20000 in
theorem ggX3_fewestMovers_X3_bestVote : GoodIn wsX3_fewestMovers wsX3_bestVote := goodIn_r _ [43, 44, 45, 46, 47, 48, 49, 50, 51, 52, 7, 53, 28, 54, 55, 56, 57, 58, 59, 60, 61, 62, 63, 64, 65, 66, 67, 68, 69, 70, 12, 13, 14, 15, 16, 17, 18, 19, 20, 21, 22, 23, 24, 25, 26, 27, 29, 30, 31, 32, 33, 34, 35, 36, 37, 38, 39, 82, 83, 84, 85, 86, 87, 88, 89, 90, 91, 92, 93, 94, 95] (by decide +kernel) (by decide +kernel)
set_option maxRecDepth 20000 in
theorem gX3_fewestMovers_X3_bestVote : GoodIn wsX3_fewestMovers (va_wsS RX3 33 yX3_bestVote wsX3_bestVote) := goodIn_app (goodIn_of _ (by decide +kernel)) ggX3_fewestMovers_X3_bestVote
set_option maxRecDepth 20000 in
theorem ggX3_fewestMovers_J6_bitCount_0f7a4 : GoodIn wsX3_fewestMovers wsJ6_bitCount_0f7a4 := goodIn_r _ [74, 75, 76, 77] (by decide +kernel) (by decide +kernel)
set_option maxRecDepth 20000 in
theorem gX3_fewestMovers_J6_bitCount_0f7a4 : GoodIn wsX3_fewestMovers (va_wsS RX3 37 yJ6_bitCount_0f7a4 wsJ6_bitCount_0f7a4) := goodIn_app (goodIn_of _ (by decide +kernel)) ggX3_fewestMovers_J6_bitCount_0f7a4
set_option maxRecDepth 20000 in
theorem ggX3_fewestMovers_X3_sumOfVotes : GoodIn wsX3_fewestMovers wsX3_sumOfVotes := goodIn_r _ [81, 3, 2, 38, 36, 39, 96, 97, 98] (by decide +kernel) (by decide +kernel)
set_option maxRecDepth 20000 in
theorem gX3_fewestMovers_X3_sumOfVotes : GoodIn wsX3_fewestMovers (wsV RX3 43 RX3 yX3_sumOfVotes wsX3_sumOfVotes) := goodIn_app (goodIn_of _ (by decide +kernel)) ggX3_fewestMovers_X3_sumOfVotes
theorem dX3_fewestMovers_0 : decode cX3_fewestMovers 0 = .ok (.iconst 0, 1) := by decide +kernel
theorem dX3_fewestMovers_1 : decode cX3_fewestMovers 1 = .ok (.istore 4, 2) := by decide +kernel
theorem dX3_fewestMovers_3 : decode cX3_fewestMovers 3 = .ok (.iload 4, 2) := by decide +kernel
theorem dX3_fewestMovers_5 : decode cX3_fewestMovers 5 = .ok (.aload_n 1, 1) := by decide +kernel
theorem dX3_fewestMovers_6 : decode cX3_fewestMovers 6 = .ok (.getfield 25, 3) := by decide +kernel
theorem dX3_fewestMovers_9 : decode cX3_fewestMovers 9 = .ok (.if_icmp .ge 38, 3) := by decide +kernel
theorem dX3_fewestMovers_12 : decode cX3_fewestMovers 12 = .ok (.aload_n 0, 1) := by decide +kernel
theorem dX3_fewestMovers_13 : decode cX3_fewestMovers 13 = .ok (.getfield 18, 3) := by decide +kernel
theorem dX3_fewestMovers_16 : decode cX3_fewestMovers 16 = .ok (.iload 4, 2) := by decide +kernel
theorem dX3_fewestMovers_18 : decode cX3_fewestMovers 18 = .ok (.aload_n 1, 1) := by decide +kernel
theorem dX3_fewestMovers_19 : decode cX3_fewestMovers 19 = .ok (.iload 4, 2) := by decide +kernel
theorem dX3_fewestMovers_21 : decode cX3_fewestMovers 21 = .ok (.iload_n 2, 1) := by decide +kernel
theorem dX3_fewestMovers_22 : decode cX3_fewestMovers 22 = .ok (.invokevirtual 29, 3) := by decide +kernel
theorem dX3_fewestMovers_25 : decode cX3_fewestMovers 25 = .ok (.iastore, 1) := by decide +kernel
theorem dX3_fewestMovers_26 : decode cX3_fewestMovers 26 = .ok (.aload_n 0, 1) := by decide +kernel
theorem dX3_fewestMovers_27 : decode cX3_fewestMovers 27 = .ok (.getfield 22, 3) := by decide +kernel
theorem dX3_fewestMovers_30 : decode cX3_fewestMovers 30 = .ok (.iload 4, 2) := by decide +kernel
theorem dX3_fewestMovers_32 : decode cX3_fewestMovers 32 = .ok (.aload_n 1, 1) := by decide +kernel
theorem dX3_fewestMovers_33 : decode cX3_fewestMovers 33 = .ok (.iload 4, 2) := by decide +kernel
theorem dX3_fewestMovers_35 : decode cX3_fewestMovers 35 = .ok (.iload_n 2, 1) := by decide +kernel
theorem dX3_fewestMovers_36 : decode cX3_fewestMovers 36 = .ok (.iload_n 3, 1) := by decide +kernel
theorem dX3_fewestMovers_37 : decode cX3_fewestMovers 37 = .ok (.invokestatic 33, 3) := by decide +kernel
theorem dX3_fewestMovers_40 : decode cX3_fewestMovers 40 = .ok (.iastore, 1) := by decide +kernel
theorem dX3_fewestMovers_41 : decode cX3_fewestMovers 41 = .ok (.iinc 4 1, 3) := by decide +kernel
theorem dX3_fewestMovers_44 : decode cX3_fewestMovers 44 = .ok (.goto (-41), 3) := by decide +kernel
theorem dX3_fewestMovers_47 : decode cX3_fewestMovers 47 = .ok (.bipush (-9), 2) := by decide +kernel
theorem dX3_fewestMovers_49 : decode cX3_fewestMovers 49 = .ok (.istore 4, 2) := by decide +kernel
theorem dX3_fewestMovers_51 : decode cX3_fewestMovers 51 = .ok (.bipush 8, 2) := by decide +kernel
theorem dX3_fewestMovers_53 : decode cX3_fewestMovers 53 = .ok (.istore 5, 2) := by decide +kernel
theorem dX3_fewestMovers_55 : decode cX3_fewestMovers 55 = .ok (.iconst 0, 1) := by decide +kernel
theorem dX3_fewestMovers_56 : decode cX3_fewestMovers 56 = .ok (.istore 6, 2) := by decide +kernel
theorem dX3_fewestMovers_58 : decode cX3_fewestMovers 58 = .ok (.iload 6, 2) := by decide +kernel
theorem dX3_fewestMovers_60 : decode cX3_fewestMovers 60 = .ok (.iconst 1, 1) := by decide +kernel
theorem dX3_fewestMovers_61 : decode cX3_fewestMovers 61 = .ok (.aload_n 1, 1) := by decide +kernel
theorem dX3_fewestMovers_62 : decode cX3_fewestMovers 62 = .ok (.getfield 25, 3) := by decide +kernel
theorem dX3_fewestMovers_65 : decode cX3_fewestMovers 65 = .ok (.ishl, 1) := by decide +kernel
theorem dX3_fewestMovers_66 : decode cX3_fewestMovers 66 = .ok (.if_icmp .ge 44, 3) := by decide +kernel
theorem dX3_fewestMovers_69 : decode cX3_fewestMovers 69 = .ok (.iload 6, 2) := by decide +kernel
theorem dX3_fewestMovers_71 : decode cX3_fewestMovers 71 = .ok (.invokestatic 37, 3) := by decide +kernel
theorem dX3_fewestMovers_74 : decode cX3_fewestMovers 74 = .ok (.istore 7, 2) := by decide +kernel
theorem dX3_fewestMovers_76 : decode cX3_fewestMovers 76 = .ok (.iload 7, 2) := by decide +kernel
theorem dX3_fewestMovers_78 : decode cX3_fewestMovers 78 = .ok (.iload 5, 2) := by decide +kernel
theorem dX3_fewestMovers_80 : decode cX3_fewestMovers 80 = .ok (.if_icmp .ge 24, 3) := by decide +kernel
theorem dX3_fewestMovers_83 : decode cX3_fewestMovers 83 = .ok (.aload_n 0, 1) := by decide +kernel
theorem dX3_fewestMovers_84 : decode cX3_fewestMovers 84 = .ok (.aload_n 1, 1) := by decide +kernel
theorem dX3_fewestMovers_85 : decode cX3_fewestMovers 85 = .ok (.getfield 25, 3) := by decide +kernel
theorem dX3_fewestMovers_88 : decode cX3_fewestMovers 88 = .ok (.iload 6, 2) := by decide +kernel
theorem dX3_fewestMovers_90 : decode cX3_fewestMovers 90 = .ok (.invokevirtual 43, 3) := by decide +kernel
theorem dX3_fewestMovers_93 : decode cX3_fewestMovers 93 = .ok (.ifCond .le 11, 3) := by decide +kernel
theorem dX3_fewestMovers_96 : decode cX3_fewestMovers 96 = .ok (.iload 6, 2) := by decide +kernel
theorem dX3_fewestMovers_98 : decode cX3_fewestMovers 98 = .ok (.istore 4, 2) := by decide +kernel
theorem dX3_fewestMovers_100 : decode cX3_fewestMovers 100 = .ok (.iload 7, 2) := by decide +kernel
theorem dX3_fewestMovers_102 : decode cX3_fewestMovers 102 = .ok (.istore 5, 2) := by decide +kernel
theorem dX3_fewestMovers_104 : decode cX3_fewestMovers 104 = .ok (.iinc 6 1, 3) := by decide +kernel
theorem dX3_fewestMovers_107 : decode cX3_fewestMovers 107 = .ok (.goto (-49), 3) := by decide +kernel
theorem dX3_fewestMovers_110 : decode cX3_fewestMovers 110 = .ok (.iload 4, 2) := by decide +kernel
theorem dX3_fewestMovers_112 : decode cX3_fewestMovers 112 = .ok (.ireturn, 1) := by decide +kernel
set_option maxRecDepth 20000 in
theorem ggX3_bestVote_X0_cells : GoodIn wsX3_bestVote wsX0_cells := goodIn_r _ [11, 12, 13, 57, 58, 59, 60, 61, 62, 63, 64, 65, 66, 67, 68, 69, 70] (by decide +kernel) (by decide +kernel)
set_option maxRecDepth 20000 in
theorem gX3_bestVote_X0_cells : GoodIn wsX3_bestVote (wsV RX3 46 RX0 yX0_cells wsX0_cells) := goodIn_app (goodIn_of _ (by decide +kernel)) ggX3_bestVote_X0_cells
set_option maxRecDepth 20000 in
theorem ggX3_bestVote_X0_steps : GoodIn wsX3_bestVote wsX0_steps := goodIn_r _ [17, 18, 19, 4, 20, 21, 22, 23, 10, 24, 12, 25, 26, 27, 28, 57, 58, 59, 60, 61, 62, 63, 64, 65, 66, 67, 68, 69, 70] (by decide +kernel) (by decide +kernel)
set_option maxRecDepth 20000 in
theorem gX3_bestVote_X0_steps : GoodIn wsX3_bestVote (wsV RX3 53 RX0 yX0_steps wsX0_steps) := goodIn_app (goodIn_of _ (by decide +kernel)) ggX3_bestVote_X0_steps
set_option maxRecDepth 20000 in
theorem ggX3_bestVote_X0_voiceAt : GoodIn wsX3_bestVote wsX0_voiceAt := goodIn_r _ [32, 33, 34, 35, 36, 10, 37, 38, 39, 40, 41, 42, 43, 44, 45, 12, 46, 47, 48, 49, 50, 51, 52, 53, 54, 55, 56, 57, 58, 59, 60, 61, 62, 63, 64, 65, 66, 67, 68, 69, 70] (by decide +kernel) (by decide +kernel)
set_option maxRecDepth 20000 in
theorem gX3_bestVote_X0_voiceAt : GoodIn wsX3_bestVote (wsV RX3 56 RX0 yX0_voiceAt wsX0_voiceAt) := goodIn_app (goodIn_of _ (by decide +kernel)) ggX3_bestVote_X0_voiceAt
theorem dX3_bestVote_0 : decode cX3_bestVote 0 = .ok (.iconst (-1), 1) := by decide +kernel
theorem dX3_bestVote_1 : decode cX3_bestVote 1 = .ok (.istore 4, 2) := by decide +kernel
theorem dX3_bestVote_3 : decode cX3_bestVote 3 = .ok (.iconst 0, 1) := by decide +kernel
theorem dX3_bestVote_4 : decode cX3_bestVote 4 = .ok (.istore 5, 2) := by decide +kernel
theorem dX3_bestVote_6 : decode cX3_bestVote 6 = .ok (.iload 5, 2) := by decide +kernel
theorem dX3_bestVote_8 : decode cX3_bestVote 8 = .ok (.aload_n 0, 1) := by decide +kernel
theorem dX3_bestVote_9 : decode cX3_bestVote 9 = .ok (.invokevirtual 46, 3) := by decide +kernel
theorem dX3_bestVote_12 : decode cX3_bestVote 12 = .ok (.if_icmp .ge 39, 3) := by decide +kernel
theorem dX3_bestVote_15 : decode cX3_bestVote 15 = .ok (.aload_n 0, 1) := by decide +kernel
theorem dX3_bestVote_16 : decode cX3_bestVote 16 = .ok (.aload_n 0, 1) := by decide +kernel
theorem dX3_bestVote_17 : decode cX3_bestVote 17 = .ok (.getfield 50, 3) := by decide +kernel
theorem dX3_bestVote_20 : decode cX3_bestVote 20 = .ok (.iload_n 1, 1) := by decide +kernel
theorem dX3_bestVote_21 : decode cX3_bestVote 21 = .ok (.iaload, 1) := by decide +kernel
theorem dX3_bestVote_22 : decode cX3_bestVote 22 = .ok (.iload 5, 2) := by decide +kernel
theorem dX3_bestVote_24 : decode cX3_bestVote 24 = .ok (.invokevirtual 53, 3) := by decide +kernel
theorem dX3_bestVote_27 : decode cX3_bestVote 27 = .ok (.iload_n 3, 1) := by decide +kernel
theorem dX3_bestVote_28 : decode cX3_bestVote 28 = .ok (.if_icmp .gt 17, 3) := by decide +kernel
theorem dX3_bestVote_31 : decode cX3_bestVote 31 = .ok (.iload 4, 2) := by decide +kernel
theorem dX3_bestVote_33 : decode cX3_bestVote 33 = .ok (.aload_n 0, 1) := by decide +kernel
theorem dX3_bestVote_34 : decode cX3_bestVote 34 = .ok (.iload 5, 2) := by decide +kernel
theorem dX3_bestVote_36 : decode cX3_bestVote 36 = .ok (.iload_n 2, 1) := by decide +kernel
theorem dX3_bestVote_37 : decode cX3_bestVote 37 = .ok (.invokevirtual 56, 3) := by decide +kernel
theorem dX3_bestVote_40 : decode cX3_bestVote 40 = .ok (.invokestatic 59, 3) := by decide +kernel
theorem dX3_bestVote_43 : decode cX3_bestVote 43 = .ok (.istore 4, 2) := by decide +kernel
theorem dX3_bestVote_45 : decode cX3_bestVote 45 = .ok (.iinc 5 1, 3) := by decide +kernel
theorem dX3_bestVote_48 : decode cX3_bestVote 48 = .ok (.goto (-42), 3) := by decide +kernel
theorem dX3_bestVote_51 : decode cX3_bestVote 51 = .ok (.iload 4, 2) := by decide +kernel
theorem dX3_bestVote_53 : decode cX3_bestVote 53 = .ok (.aload_n 0, 1) := by decide +kernel
theorem dX3_bestVote_54 : decode cX3_bestVote 54 = .ok (.getfield 64, 3) := by decide +kernel
theorem dX3_bestVote_57 : decode cX3_bestVote 57 = .ok (.iload_n 1, 1) := by decide +kernel
theorem dX3_bestVote_58 : decode cX3_bestVote 58 = .ok (.iaload, 1) := by decide +kernel
theorem dX3_bestVote_59 : decode cX3_bestVote 59 = .ok (.imul, 1) := by decide +kernel
theorem dX3_bestVote_60 : decode cX3_bestVote 60 = .ok (.ireturn, 1) := by decide +kernel
set_option maxRecDepth 20000 in
theorem ggX3_sumOfVotes_X6_hasBit : GoodIn wsX3_sumOfVotes wsX6_hasBit := goodIn_r _ [5] (by decide +kernel) (by decide +kernel)
set_option maxRecDepth 20000 in
theorem gX3_sumOfVotes_X6_hasBit_n67 : GoodIn wsX3_sumOfVotes (wsX6_hasBit) := ggX3_sumOfVotes_X6_hasBit
theorem dX3_sumOfVotes_0 : decode cX3_sumOfVotes 0 = .ok (.iconst 0, 1) := by decide +kernel
theorem dX3_sumOfVotes_1 : decode cX3_sumOfVotes 1 = .ok (.istore_n 3, 1) := by decide +kernel
theorem dX3_sumOfVotes_2 : decode cX3_sumOfVotes 2 = .ok (.iconst 0, 1) := by decide +kernel
theorem dX3_sumOfVotes_3 : decode cX3_sumOfVotes 3 = .ok (.istore 4, 2) := by decide +kernel
theorem dX3_sumOfVotes_5 : decode cX3_sumOfVotes 5 = .ok (.iload 4, 2) := by decide +kernel
theorem dX3_sumOfVotes_7 : decode cX3_sumOfVotes 7 = .ok (.iload_n 1, 1) := by decide +kernel
theorem dX3_sumOfVotes_8 : decode cX3_sumOfVotes 8 = .ok (.if_icmp .ge 38, 3) := by decide +kernel
theorem dX3_sumOfVotes_11 : decode cX3_sumOfVotes 11 = .ok (.iload_n 3, 1) := by decide +kernel
theorem dX3_sumOfVotes_12 : decode cX3_sumOfVotes 12 = .ok (.iload_n 2, 1) := by decide +kernel
theorem dX3_sumOfVotes_13 : decode cX3_sumOfVotes 13 = .ok (.iload 4, 2) := by decide +kernel
theorem dX3_sumOfVotes_15 : decode cX3_sumOfVotes 15 = .ok (.invokestatic 67, 3) := by decide +kernel
theorem dX3_sumOfVotes_18 : decode cX3_sumOfVotes 18 = .ok (.ifCond .eq 13, 3) := by decide +kernel
theorem dX3_sumOfVotes_21 : decode cX3_sumOfVotes 21 = .ok (.aload_n 0, 1) := by decide +kernel
theorem dX3_sumOfVotes_22 : decode cX3_sumOfVotes 22 = .ok (.getfield 22, 3) := by decide +kernel
theorem dX3_sumOfVotes_25 : decode cX3_sumOfVotes 25 = .ok (.iload 4, 2) := by decide +kernel
theorem dX3_sumOfVotes_27 : decode cX3_sumOfVotes 27 = .ok (.iaload, 1) := by decide +kernel
theorem dX3_sumOfVotes_28 : decode cX3_sumOfVotes 28 = .ok (.goto 10, 3) := by decide +kernel
theorem dX3_sumOfVotes_31 : decode cX3_sumOfVotes 31 = .ok (.aload_n 0, 1) := by decide +kernel
theorem dX3_sumOfVotes_32 : decode cX3_sumOfVotes 32 = .ok (.getfield 18, 3) := by decide +kernel
theorem dX3_sumOfVotes_35 : decode cX3_sumOfVotes 35 = .ok (.iload 4, 2) := by decide +kernel
theorem dX3_sumOfVotes_37 : decode cX3_sumOfVotes 37 = .ok (.iaload, 1) := by decide +kernel
theorem dX3_sumOfVotes_38 : decode cX3_sumOfVotes 38 = .ok (.iadd, 1) := by decide +kernel
theorem dX3_sumOfVotes_39 : decode cX3_sumOfVotes 39 = .ok (.istore_n 3, 1) := by decide +kernel
theorem dX3_sumOfVotes_40 : decode cX3_sumOfVotes 40 = .ok (.iinc 4 1, 3) := by decide +kernel
theorem dX3_sumOfVotes_43 : decode cX3_sumOfVotes 43 = .ok (.goto (-38), 3) := by decide +kernel
theorem dX3_sumOfVotes_46 : decode cX3_sumOfVotes 46 = .ok (.iload_n 3, 1) := by decide +kernel
theorem dX3_sumOfVotes_47 : decode cX3_sumOfVotes 47 = .ok (.ireturn, 1) := by decide +kernel
set_option maxRecDepth 20000 in
theorem ggX3_leastPruning_X0_isCarried : GoodIn wsX3_leastPruning wsX0_isCarried := goodIn_r _ [7, 8, 9, 10, 6, 11, 12, 13, 14, 15, 16, 17, 18, 19, 20, 21, 22, 23, 24, 25, 26, 27, 28, 29, 30, 31, 32, 33, 34, 35, 36, 37, 38, 39, 40, 41, 42, 43, 59, 60, 61, 62, 63, 64, 65, 66, 67, 68, 69, 70, 71, 72] (by decide +kernel) (by decide +kernel)
set_option maxRecDepth 20000 in
theorem gX3_leastPruning_X0_isCarried : GoodIn wsX3_leastPruning (wsV RX3 71 RX0 yX0_isCarried wsX0_isCarried) := goodIn_app (goodIn_of _ (by decide +kernel)) ggX3_leastPruning_X0_isCarried
set_option maxRecDepth 20000 in
theorem ggX3_leastPruning_X0_become : GoodIn wsX3_leastPruning wsX0_become := goodIn_r _ [47, 32, 48, 24, 12, 33, 49, 30, 34, 25, 19, 31, 50, 13, 14, 59, 60, 61, 62, 63, 64, 65, 66, 67, 68, 69, 70, 71, 72] (by decide +kernel) (by decide +kernel)
set_option maxRecDepth 20000 in
theorem gX3_leastPruning_X0_become : GoodIn wsX3_leastPruning (wsV RX3 78 RX0 yX0_become wsX0_become) := goodIn_app (goodIn_of _ (by decide +kernel)) ggX3_leastPruning_X0_become
set_option maxRecDepth 20000 in
theorem ggX3_leastPruning_X0_lower : GoodIn wsX3_leastPruning wsX0_lower := goodIn_r _ [54, 25, 55, 56, 57, 58, 59, 60, 61, 62, 63, 64, 65, 66, 67, 68, 69, 70, 71, 72] (by decide +kernel) (by decide +kernel)
set_option maxRecDepth 20000 in
theorem gX3_leastPruning_X0_lower : GoodIn wsX3_leastPruning (wsV RX3 82 RX0 yX0_lower wsX0_lower) := goodIn_app (goodIn_of _ (by decide +kernel)) ggX3_leastPruning_X0_lower
theorem dX3_leastPruning_0 : decode cX3_leastPruning 0 = .ok (.aload_n 1, 1) := by decide +kernel
theorem dX3_leastPruning_1 : decode cX3_leastPruning 1 = .ok (.iload_n 2, 1) := by decide +kernel
theorem dX3_leastPruning_2 : decode cX3_leastPruning 2 = .ok (.invokevirtual 71, 3) := by decide +kernel
theorem dX3_leastPruning_5 : decode cX3_leastPruning 5 = .ok (.ifCond .eq 5, 3) := by decide +kernel
theorem dX3_leastPruning_8 : decode cX3_leastPruning 8 = .ok (.iconst 0, 1) := by decide +kernel
theorem dX3_leastPruning_9 : decode cX3_leastPruning 9 = .ok (.ireturn, 1) := by decide +kernel
theorem dX3_leastPruning_10 : decode cX3_leastPruning 10 = .ok (.iconst 1, 1) := by decide +kernel
theorem dX3_leastPruning_11 : decode cX3_leastPruning 11 = .ok (.istore_n 3, 1) := by decide +kernel
theorem dX3_leastPruning_12 : decode cX3_leastPruning 12 = .ok (.iload_n 3, 1) := by decide +kernel
theorem dX3_leastPruning_13 : decode cX3_leastPruning 13 = .ok (.bipush 20, 2) := by decide +kernel
theorem dX3_leastPruning_15 : decode cX3_leastPruning 15 = .ok (.if_icmp .gt 64, 3) := by decide +kernel
theorem dX3_leastPruning_18 : decode cX3_leastPruning 18 = .ok (.iconst 0, 1) := by decide +kernel
theorem dX3_leastPruning_19 : decode cX3_leastPruning 19 = .ok (.istore 4, 2) := by decide +kernel
theorem dX3_leastPruning_21 : decode cX3_leastPruning 21 = .ok (.iload 4, 2) := by decide +kernel
theorem dX3_leastPruning_23 : decode cX3_leastPruning 23 = .ok (.aload_n 1, 1) := by decide +kernel
theorem dX3_leastPruning_24 : decode cX3_leastPruning 24 = .ok (.getfield 75, 3) := by decide +kernel
theorem dX3_leastPruning_27 : decode cX3_leastPruning 27 = .ok (.if_icmp .ge 46, 3) := by decide +kernel
theorem dX3_leastPruning_30 : decode cX3_leastPruning 30 = .ok (.aload_n 0, 1) := by decide +kernel
theorem dX3_leastPruning_31 : decode cX3_leastPruning 31 = .ok (.getfield 12, 3) := by decide +kernel
theorem dX3_leastPruning_34 : decode cX3_leastPruning 34 = .ok (.aload_n 1, 1) := by decide +kernel
theorem dX3_leastPruning_35 : decode cX3_leastPruning 35 = .ok (.invokevirtual 78, 3) := by decide +kernel
theorem dX3_leastPruning_38 : decode cX3_leastPruning 38 = .ok (.aload_n 0, 1) := by decide +kernel
theorem dX3_leastPruning_39 : decode cX3_leastPruning 39 = .ok (.getfield 12, 3) := by decide +kernel
theorem dX3_leastPruning_42 : decode cX3_leastPruning 42 = .ok (.iload 4, 2) := by decide +kernel
theorem dX3_leastPruning_44 : decode cX3_leastPruning 44 = .ok (.iload_n 3, 1) := by decide +kernel
theorem dX3_leastPruning_45 : decode cX3_leastPruning 45 = .ok (.invokevirtual 82, 3) := by decide +kernel
theorem dX3_leastPruning_48 : decode cX3_leastPruning 48 = .ok (.aload_n 0, 1) := by decide +kernel
theorem dX3_leastPruning_49 : decode cX3_leastPruning 49 = .ok (.getfield 12, 3) := by decide +kernel
theorem dX3_leastPruning_52 : decode cX3_leastPruning 52 = .ok (.iload_n 2, 1) := by decide +kernel
theorem dX3_leastPruning_53 : decode cX3_leastPruning 53 = .ok (.invokevirtual 71, 3) := by decide +kernel
theorem dX3_leastPruning_56 : decode cX3_leastPruning 56 = .ok (.ifCond .eq 11, 3) := by decide +kernel
theorem dX3_leastPruning_59 : decode cX3_leastPruning 59 = .ok (.bipush 100, 2) := by decide +kernel
theorem dX3_leastPruning_61 : decode cX3_leastPruning 61 = .ok (.iload 4, 2) := by decide +kernel
theorem dX3_leastPruning_63 : decode cX3_leastPruning 63 = .ok (.imul, 1) := by decide +kernel
theorem dX3_leastPruning_64 : decode cX3_leastPruning 64 = .ok (.iload_n 3, 1) := by decide +kernel
theorem dX3_leastPruning_65 : decode cX3_leastPruning 65 = .ok (.iadd, 1) := by decide +kernel
theorem dX3_leastPruning_66 : decode cX3_leastPruning 66 = .ok (.ireturn, 1) := by decide +kernel
theorem dX3_leastPruning_67 : decode cX3_leastPruning 67 = .ok (.iinc 4 1, 3) := by decide +kernel
theorem dX3_leastPruning_70 : decode cX3_leastPruning 70 = .ok (.goto (-49), 3) := by decide +kernel
theorem dX3_leastPruning_73 : decode cX3_leastPruning 73 = .ok (.iinc 3 1, 3) := by decide +kernel
theorem dX3_leastPruning_76 : decode cX3_leastPruning 76 = .ok (.goto (-64), 3) := by decide +kernel
theorem dX3_leastPruning_79 : decode cX3_leastPruning 79 = .ok (.bipush (-9), 2) := by decide +kernel
theorem dX3_leastPruning_81 : decode cX3_leastPruning 81 = .ok (.ireturn, 1) := by decide +kernel
set_option maxRecDepth 20000 in
theorem ggX3_cellToPlant_X0_cells : GoodIn wsX3_cellToPlant wsX0_cells := goodIn_r _ [6, 7, 8, 65, 66, 67, 68, 69, 70, 71, 72, 73, 74, 75, 76, 77, 78] (by decide +kernel) (by decide +kernel)
set_option maxRecDepth 20000 in
theorem gX3_cellToPlant_X0_cells : GoodIn wsX3_cellToPlant (wsV RX3 46 RX0 yX0_cells wsX0_cells) := goodIn_app (goodIn_of _ (by decide +kernel)) ggX3_cellToPlant_X0_cells
set_option maxRecDepth 20000 in
theorem ggX3_cellToPlant_X0_hasTreeAt : GoodIn wsX3_cellToPlant wsX0_hasTreeAt := goodIn_r _ [12, 13, 14, 65, 66, 67, 68, 69, 70, 71, 72, 73, 74, 75, 76, 77, 78] (by decide +kernel) (by decide +kernel)
set_option maxRecDepth 20000 in
theorem gX3_cellToPlant_X0_hasTreeAt : GoodIn wsX3_cellToPlant (wsV RX3 86 RX0 yX0_hasTreeAt wsX0_hasTreeAt) := goodIn_app (goodIn_of _ (by decide +kernel)) ggX3_cellToPlant_X0_hasTreeAt
set_option maxRecDepth 20000 in
theorem ggX3_cellToPlant_X0_become : GoodIn wsX3_cellToPlant wsX0_become := goodIn_r _ [18, 7, 8, 13, 19, 20, 21, 22, 14, 23, 24, 25, 26, 27, 28, 65, 66, 67, 68, 69, 70, 71, 72, 73, 74, 75, 76, 77, 78] (by decide +kernel) (by decide +kernel)
set_option maxRecDepth 20000 in
theorem gX3_cellToPlant_X0_become : GoodIn wsX3_cellToPlant (wsV RX3 78 RX0 yX0_become wsX0_become) := goodIn_app (goodIn_of _ (by decide +kernel)) ggX3_cellToPlant_X0_become
set_option maxRecDepth 20000 in
theorem ggX3_cellToPlant_X0_addTree : GoodIn wsX3_cellToPlant wsX0_addTree := goodIn_r _ [32, 13, 14, 23, 24, 25, 26, 65, 66, 67, 68, 69, 70, 71, 72, 73, 74, 75, 76, 77, 78] (by decide +kernel) (by decide +kernel)
set_option maxRecDepth 20000 in
theorem gX3_cellToPlant_X0_addTree : GoodIn wsX3_cellToPlant (wsV RX3 89 RX0 yX0_addTree wsX0_addTree) := goodIn_app (goodIn_of _ (by decide +kernel)) ggX3_cellToPlant_X0_addTree
set_option maxRecDepth 20000 in
theorem ggX3_cellToPlant_X0_isCarried : GoodIn wsX3_cellToPlant wsX0_isCarried := goodIn_r _ [36, 37, 38, 39, 5, 40, 19, 27, 28, 41, 42, 43, 44, 24, 45, 46, 47, 48, 13, 23, 49, 50, 51, 52, 22, 25, 7, 20, 14, 53, 54, 55, 56, 57, 58, 59, 60, 61, 65, 66, 67, 68, 69, 70, 71, 72, 73, 74, 75, 76, 77, 78] (by decide +kernel) (by decide +kernel)
set_option maxRecDepth 20000 in
theorem gX3_cellToPlant_X0_isCarried : GoodIn wsX3_cellToPlant (wsV RX3 71 RX0 yX0_isCarried wsX0_isCarried) := goodIn_app (goodIn_of _ (by decide +kernel)) ggX3_cellToPlant_X0_isCarried
theorem dX3_cellToPlant_0 : decode cX3_cellToPlant 0 = .ok (.iconst 0, 1) := by decide +kernel
theorem dX3_cellToPlant_1 : decode cX3_cellToPlant 1 = .ok (.istore 4, 2) := by decide +kernel
theorem dX3_cellToPlant_3 : decode cX3_cellToPlant 3 = .ok (.iload 4, 2) := by decide +kernel
theorem dX3_cellToPlant_5 : decode cX3_cellToPlant 5 = .ok (.aload_n 1, 1) := by decide +kernel
theorem dX3_cellToPlant_6 : decode cX3_cellToPlant 6 = .ok (.invokevirtual 46, 3) := by decide +kernel
theorem dX3_cellToPlant_9 : decode cX3_cellToPlant 9 = .ok (.if_icmp .ge 57, 3) := by decide +kernel
theorem dX3_cellToPlant_12 : decode cX3_cellToPlant 12 = .ok (.aload_n 1, 1) := by decide +kernel
theorem dX3_cellToPlant_13 : decode cX3_cellToPlant 13 = .ok (.iload 4, 2) := by decide +kernel
theorem dX3_cellToPlant_15 : decode cX3_cellToPlant 15 = .ok (.invokevirtual 86, 3) := by decide +kernel
theorem dX3_cellToPlant_18 : decode cX3_cellToPlant 18 = .ok (.ifCond .eq 6, 3) := by decide +kernel
theorem dX3_cellToPlant_21 : decode cX3_cellToPlant 21 = .ok (.goto 39, 3) := by decide +kernel
theorem dX3_cellToPlant_24 : decode cX3_cellToPlant 24 = .ok (.aload_n 0, 1) := by decide +kernel
theorem dX3_cellToPlant_25 : decode cX3_cellToPlant 25 = .ok (.getfield 12, 3) := by decide +kernel
theorem dX3_cellToPlant_28 : decode cX3_cellToPlant 28 = .ok (.aload_n 1, 1) := by decide +kernel
theorem dX3_cellToPlant_29 : decode cX3_cellToPlant 29 = .ok (.invokevirtual 78, 3) := by decide +kernel
theorem dX3_cellToPlant_32 : decode cX3_cellToPlant 32 = .ok (.aload_n 0, 1) := by decide +kernel
theorem dX3_cellToPlant_33 : decode cX3_cellToPlant 33 = .ok (.getfield 12, 3) := by decide +kernel
theorem dX3_cellToPlant_36 : decode cX3_cellToPlant 36 = .ok (.iload 4, 2) := by decide +kernel
theorem dX3_cellToPlant_38 : decode cX3_cellToPlant 38 = .ok (.iload_n 3, 1) := by decide +kernel
theorem dX3_cellToPlant_39 : decode cX3_cellToPlant 39 = .ok (.iconst 1, 1) := by decide +kernel
theorem dX3_cellToPlant_40 : decode cX3_cellToPlant 40 = .ok (.iconst 1, 1) := by decide +kernel
theorem dX3_cellToPlant_41 : decode cX3_cellToPlant 41 = .ok (.iload_n 2, 1) := by decide +kernel
theorem dX3_cellToPlant_42 : decode cX3_cellToPlant 42 = .ok (.ishl, 1) := by decide +kernel
theorem dX3_cellToPlant_43 : decode cX3_cellToPlant 43 = .ok (.invokevirtual 89, 3) := by decide +kernel
theorem dX3_cellToPlant_46 : decode cX3_cellToPlant 46 = .ok (.aload_n 0, 1) := by decide +kernel
theorem dX3_cellToPlant_47 : decode cX3_cellToPlant 47 = .ok (.getfield 12, 3) := by decide +kernel
theorem dX3_cellToPlant_50 : decode cX3_cellToPlant 50 = .ok (.iload_n 2, 1) := by decide +kernel
theorem dX3_cellToPlant_51 : decode cX3_cellToPlant 51 = .ok (.invokevirtual 71, 3) := by decide +kernel
theorem dX3_cellToPlant_54 : decode cX3_cellToPlant 54 = .ok (.ifCond .eq 6, 3) := by decide +kernel
theorem dX3_cellToPlant_57 : decode cX3_cellToPlant 57 = .ok (.iload 4, 2) := by decide +kernel
theorem dX3_cellToPlant_59 : decode cX3_cellToPlant 59 = .ok (.ireturn, 1) := by decide +kernel
theorem dX3_cellToPlant_60 : decode cX3_cellToPlant 60 = .ok (.iinc 4 1, 3) := by decide +kernel
theorem dX3_cellToPlant_63 : decode cX3_cellToPlant 63 = .ok (.goto (-60), 3) := by decide +kernel
theorem dX3_cellToPlant_66 : decode cX3_cellToPlant 66 = .ok (.bipush (-9), 2) := by decide +kernel
theorem dX3_cellToPlant_68 : decode cX3_cellToPlant 68 = .ok (.ireturn, 1) := by decide +kernel
set_option maxRecDepth 20000 in
theorem ggX3_carryingSuns_X0_become : GoodIn wsX3_carryingSuns wsX0_become := goodIn_r _ [7, 8, 9, 10, 11, 12, 13, 14, 15, 16, 17, 18, 19, 20, 21, 56, 57, 58, 59, 60, 61, 62, 63, 64, 65, 66, 67, 68, 69] (by decide +kernel) (by decide +kernel)
set_option maxRecDepth 20000 in
theorem gX3_carryingSuns_X0_become : GoodIn wsX3_carryingSuns (wsV RX3 78 RX0 yX0_become wsX0_become) := goodIn_app (goodIn_of _ (by decide +kernel)) ggX3_carryingSuns_X0_become
set_option maxRecDepth 20000 in
theorem ggX3_carryingSuns_X0_isCarried : GoodIn wsX3_carryingSuns wsX0_isCarried := goodIn_r _ [25, 26, 27, 28, 6, 29, 11, 20, 21, 30, 31, 32, 33, 17, 34, 35, 36, 37, 10, 16, 38, 39, 40, 41, 14, 18, 8, 12, 15, 42, 43, 44, 45, 46, 47, 48, 49, 50, 56, 57, 58, 59, 60, 61, 62, 63, 64, 65, 66, 67, 68, 69] (by decide +kernel) (by decide +kernel)
set_option maxRecDepth 20000 in
theorem gX3_carryingSuns_X0_isCarried : GoodIn wsX3_carryingSuns (wsV RX3 71 RX0 yX0_isCarried wsX0_isCarried) := goodIn_app (goodIn_of _ (by decide +kernel)) ggX3_carryingSuns_X0_isCarried
set_option maxRecDepth 20000 in
theorem ggX3_carryingSuns_X6_asNumber : GoodIn wsX3_carryingSuns wsX6_asNumber := goodIn_r _ [52] (by decide +kernel) (by decide +kernel)
set_option maxRecDepth 20000 in
theorem gX3_carryingSuns_X6_asNumber_n96 : GoodIn wsX3_carryingSuns (wsX6_asNumber) := ggX3_carryingSuns_X6_asNumber
theorem dX3_carryingSuns_0 : decode cX3_carryingSuns 0 = .ok (.aload_n 0, 1) := by decide +kernel
theorem dX3_carryingSuns_1 : decode cX3_carryingSuns 1 = .ok (.getfield 12, 3) := by decide +kernel
theorem dX3_carryingSuns_4 : decode cX3_carryingSuns 4 = .ok (.aload_n 1, 1) := by decide +kernel
theorem dX3_carryingSuns_5 : decode cX3_carryingSuns 5 = .ok (.invokevirtual 78, 3) := by decide +kernel
theorem dX3_carryingSuns_8 : decode cX3_carryingSuns 8 = .ok (.iconst 0, 1) := by decide +kernel
theorem dX3_carryingSuns_9 : decode cX3_carryingSuns 9 = .ok (.istore_n 3, 1) := by decide +kernel
theorem dX3_carryingSuns_10 : decode cX3_carryingSuns 10 = .ok (.iconst 1, 1) := by decide +kernel
theorem dX3_carryingSuns_11 : decode cX3_carryingSuns 11 = .ok (.istore 4, 2) := by decide +kernel
theorem dX3_carryingSuns_13 : decode cX3_carryingSuns 13 = .ok (.iload 4, 2) := by decide +kernel
theorem dX3_carryingSuns_15 : decode cX3_carryingSuns 15 = .ok (.bipush 9, 2) := by decide +kernel
theorem dX3_carryingSuns_17 : decode cX3_carryingSuns 17 = .ok (.if_icmp .gt 37, 3) := by decide +kernel
theorem dX3_carryingSuns_20 : decode cX3_carryingSuns 20 = .ok (.aload_n 0, 1) := by decide +kernel
theorem dX3_carryingSuns_21 : decode cX3_carryingSuns 21 = .ok (.getfield 12, 3) := by decide +kernel
theorem dX3_carryingSuns_24 : decode cX3_carryingSuns 24 = .ok (.iload 4, 2) := by decide +kernel
theorem dX3_carryingSuns_26 : decode cX3_carryingSuns 26 = .ok (.putfield 93, 3) := by decide +kernel
theorem dX3_carryingSuns_29 : decode cX3_carryingSuns 29 = .ok (.iload_n 3, 1) := by decide +kernel
theorem dX3_carryingSuns_30 : decode cX3_carryingSuns 30 = .ok (.aload_n 0, 1) := by decide +kernel
theorem dX3_carryingSuns_31 : decode cX3_carryingSuns 31 = .ok (.getfield 12, 3) := by decide +kernel
theorem dX3_carryingSuns_34 : decode cX3_carryingSuns 34 = .ok (.iload_n 2, 1) := by decide +kernel
theorem dX3_carryingSuns_35 : decode cX3_carryingSuns 35 = .ok (.invokevirtual 71, 3) := by decide +kernel
theorem dX3_carryingSuns_38 : decode cX3_carryingSuns 38 = .ok (.invokestatic 96, 3) := by decide +kernel
theorem dX3_carryingSuns_41 : decode cX3_carryingSuns 41 = .ok (.iload 4, 2) := by decide +kernel
theorem dX3_carryingSuns_43 : decode cX3_carryingSuns 43 = .ok (.iconst 1, 1) := by decide +kernel
theorem dX3_carryingSuns_44 : decode cX3_carryingSuns 44 = .ok (.isub, 1) := by decide +kernel
theorem dX3_carryingSuns_45 : decode cX3_carryingSuns 45 = .ok (.ishl, 1) := by decide +kernel
theorem dX3_carryingSuns_46 : decode cX3_carryingSuns 46 = .ok (.ior, 1) := by decide +kernel
theorem dX3_carryingSuns_47 : decode cX3_carryingSuns 47 = .ok (.istore_n 3, 1) := by decide +kernel
theorem dX3_carryingSuns_48 : decode cX3_carryingSuns 48 = .ok (.iinc 4 1, 3) := by decide +kernel
theorem dX3_carryingSuns_51 : decode cX3_carryingSuns 51 = .ok (.goto (-38), 3) := by decide +kernel
theorem dX3_carryingSuns_54 : decode cX3_carryingSuns 54 = .ok (.iload_n 3, 1) := by decide +kernel
theorem dX3_carryingSuns_55 : decode cX3_carryingSuns 55 = .ok (.ireturn, 1) := by decide +kernel
set_option maxRecDepth 20000 in
theorem ggX3_possibleSuns_X0_become : GoodIn wsX3_possibleSuns wsX0_become := goodIn_r _ [7, 8, 9, 10, 11, 12, 13, 14, 15, 16, 17, 18, 19, 20, 21, 60, 61, 62, 63, 64, 65, 66, 67, 68, 69, 70, 71, 72, 73] (by decide +kernel) (by decide +kernel)
set_option maxRecDepth 20000 in
theorem gX3_possibleSuns_X0_become : GoodIn wsX3_possibleSuns (wsV RX3 78 RX0 yX0_become wsX0_become) := goodIn_app (goodIn_of _ (by decide +kernel)) ggX3_possibleSuns_X0_become
set_option maxRecDepth 20000 in
theorem ggX3_possibleSuns_X4_isSoIn : GoodIn wsX3_possibleSuns wsX4_isSoIn := goodIn_r _ [26, 27, 28, 29, 30, 31, 32, 6, 33, 11, 20, 21, 34, 35, 36, 37, 17, 38, 39, 40, 41, 10, 16, 42, 43, 44, 45, 14, 18, 8, 12, 15, 46, 47, 48, 49, 50, 51, 52, 53, 54, 74, 75, 76, 60, 61, 62, 63, 64, 65, 66, 67, 68, 69, 70, 71, 72, 73] (by decide +kernel) (by decide +kernel)
set_option maxRecDepth 20000 in
theorem gX3_possibleSuns_X4_isSoIn : GoodIn wsX3_possibleSuns (wsV RX3 100 RX4 yX4_isSoIn wsX4_isSoIn) := goodIn_app (goodIn_of _ (by decide +kernel)) ggX3_possibleSuns_X4_isSoIn
set_option maxRecDepth 20000 in
theorem ggX3_possibleSuns_X6_asNumber : GoodIn wsX3_possibleSuns wsX6_asNumber := goodIn_r _ [56] (by decide +kernel) (by decide +kernel)
set_option maxRecDepth 20000 in
theorem gX3_possibleSuns_X6_asNumber_n96 : GoodIn wsX3_possibleSuns (wsX6_asNumber) := ggX3_possibleSuns_X6_asNumber
theorem dX3_possibleSuns_0 : decode cX3_possibleSuns 0 = .ok (.aload_n 0, 1) := by decide +kernel
theorem dX3_possibleSuns_1 : decode cX3_possibleSuns 1 = .ok (.getfield 12, 3) := by decide +kernel
theorem dX3_possibleSuns_4 : decode cX3_possibleSuns 4 = .ok (.aload_n 1, 1) := by decide +kernel
theorem dX3_possibleSuns_5 : decode cX3_possibleSuns 5 = .ok (.invokevirtual 78, 3) := by decide +kernel
theorem dX3_possibleSuns_8 : decode cX3_possibleSuns 8 = .ok (.iconst 0, 1) := by decide +kernel
theorem dX3_possibleSuns_9 : decode cX3_possibleSuns 9 = .ok (.istore_n 3, 1) := by decide +kernel
theorem dX3_possibleSuns_10 : decode cX3_possibleSuns 10 = .ok (.iconst 1, 1) := by decide +kernel
theorem dX3_possibleSuns_11 : decode cX3_possibleSuns 11 = .ok (.istore 4, 2) := by decide +kernel
theorem dX3_possibleSuns_13 : decode cX3_possibleSuns 13 = .ok (.iload 4, 2) := by decide +kernel
theorem dX3_possibleSuns_15 : decode cX3_possibleSuns 15 = .ok (.bipush 9, 2) := by decide +kernel
theorem dX3_possibleSuns_17 : decode cX3_possibleSuns 17 = .ok (.if_icmp .gt 37, 3) := by decide +kernel
theorem dX3_possibleSuns_20 : decode cX3_possibleSuns 20 = .ok (.aload_n 0, 1) := by decide +kernel
theorem dX3_possibleSuns_21 : decode cX3_possibleSuns 21 = .ok (.getfield 12, 3) := by decide +kernel
theorem dX3_possibleSuns_24 : decode cX3_possibleSuns 24 = .ok (.iload 4, 2) := by decide +kernel
theorem dX3_possibleSuns_26 : decode cX3_possibleSuns 26 = .ok (.putfield 93, 3) := by decide +kernel
theorem dX3_possibleSuns_29 : decode cX3_possibleSuns 29 = .ok (.iload_n 3, 1) := by decide +kernel
theorem dX3_possibleSuns_30 : decode cX3_possibleSuns 30 = .ok (.aload_n 2, 1) := by decide +kernel
theorem dX3_possibleSuns_31 : decode cX3_possibleSuns 31 = .ok (.aload_n 0, 1) := by decide +kernel
theorem dX3_possibleSuns_32 : decode cX3_possibleSuns 32 = .ok (.getfield 12, 3) := by decide +kernel
theorem dX3_possibleSuns_35 : decode cX3_possibleSuns 35 = .ok (.invokevirtual 100, 3) := by decide +kernel
theorem dX3_possibleSuns_38 : decode cX3_possibleSuns 38 = .ok (.invokestatic 96, 3) := by decide +kernel
theorem dX3_possibleSuns_41 : decode cX3_possibleSuns 41 = .ok (.iload 4, 2) := by decide +kernel
theorem dX3_possibleSuns_43 : decode cX3_possibleSuns 43 = .ok (.iconst 1, 1) := by decide +kernel
theorem dX3_possibleSuns_44 : decode cX3_possibleSuns 44 = .ok (.isub, 1) := by decide +kernel
theorem dX3_possibleSuns_45 : decode cX3_possibleSuns 45 = .ok (.ishl, 1) := by decide +kernel
theorem dX3_possibleSuns_46 : decode cX3_possibleSuns 46 = .ok (.ior, 1) := by decide +kernel
theorem dX3_possibleSuns_47 : decode cX3_possibleSuns 47 = .ok (.istore_n 3, 1) := by decide +kernel
theorem dX3_possibleSuns_48 : decode cX3_possibleSuns 48 = .ok (.iinc 4 1, 3) := by decide +kernel
theorem dX3_possibleSuns_51 : decode cX3_possibleSuns 51 = .ok (.goto (-38), 3) := by decide +kernel
theorem dX3_possibleSuns_54 : decode cX3_possibleSuns 54 = .ok (.iload_n 3, 1) := by decide +kernel
theorem dX3_possibleSuns_55 : decode cX3_possibleSuns 55 = .ok (.ireturn, 1) := by decide +kernel
set_option maxRecDepth 20000 in
theorem ggX3_partingColumn_X0_isCarriedWithin : GoodIn wsX3_partingColumn wsX0_isCarriedWithin := goodIn_r _ [6, 7, 8, 9, 10, 11, 5, 12, 13, 14, 15, 16, 17, 18, 19, 20, 21, 22, 23, 24, 25, 26, 27, 28, 29, 30, 31, 32, 33, 34, 35, 36, 37, 38, 39, 40, 41, 42, 43, 44, 45, 46, 47, 48, 49, 50, 51, 52, 53, 54, 55, 56, 57, 58, 59, 60] (by decide +kernel) (by decide +kernel)
set_option maxRecDepth 20000 in
theorem gX3_partingColumn_X0_isCarriedWithin : GoodIn wsX3_partingColumn (wsV RX3 109 RX0 yX0_isCarriedWithin wsX0_isCarriedWithin) := goodIn_app (goodIn_of _ (by decide +kernel)) ggX3_partingColumn_X0_isCarriedWithin
theorem dX3_partingColumn_0 : decode cX3_partingColumn 0 = .ok (.iconst 1, 1) := by decide +kernel
theorem dX3_partingColumn_1 : decode cX3_partingColumn 1 = .ok (.istore_n 3, 1) := by decide +kernel
theorem dX3_partingColumn_2 : decode cX3_partingColumn 2 = .ok (.iload_n 3, 1) := by decide +kernel
theorem dX3_partingColumn_3 : decode cX3_partingColumn 3 = .ok (.aload_n 1, 1) := by decide +kernel
theorem dX3_partingColumn_4 : decode cX3_partingColumn 4 = .ok (.getfield 106, 3) := by decide +kernel
theorem dX3_partingColumn_7 : decode cX3_partingColumn 7 = .ok (.if_icmp .ge 38, 3) := by decide +kernel
theorem dX3_partingColumn_10 : decode cX3_partingColumn 10 = .ok (.aload_n 1, 1) := by decide +kernel
theorem dX3_partingColumn_11 : decode cX3_partingColumn 11 = .ok (.iload_n 2, 1) := by decide +kernel
theorem dX3_partingColumn_12 : decode cX3_partingColumn 12 = .ok (.iconst 0, 1) := by decide +kernel
theorem dX3_partingColumn_13 : decode cX3_partingColumn 13 = .ok (.iload_n 3, 1) := by decide +kernel
theorem dX3_partingColumn_14 : decode cX3_partingColumn 14 = .ok (.iconst 1, 1) := by decide +kernel
theorem dX3_partingColumn_15 : decode cX3_partingColumn 15 = .ok (.isub, 1) := by decide +kernel
theorem dX3_partingColumn_16 : decode cX3_partingColumn 16 = .ok (.invokevirtual 109, 3) := by decide +kernel
theorem dX3_partingColumn_19 : decode cX3_partingColumn 19 = .ok (.ifCond .eq 20, 3) := by decide +kernel
theorem dX3_partingColumn_22 : decode cX3_partingColumn 22 = .ok (.aload_n 1, 1) := by decide +kernel
theorem dX3_partingColumn_23 : decode cX3_partingColumn 23 = .ok (.iload_n 2, 1) := by decide +kernel
theorem dX3_partingColumn_24 : decode cX3_partingColumn 24 = .ok (.iload_n 3, 1) := by decide +kernel
theorem dX3_partingColumn_25 : decode cX3_partingColumn 25 = .ok (.aload_n 1, 1) := by decide +kernel
theorem dX3_partingColumn_26 : decode cX3_partingColumn 26 = .ok (.getfield 106, 3) := by decide +kernel
theorem dX3_partingColumn_29 : decode cX3_partingColumn 29 = .ok (.iconst 1, 1) := by decide +kernel
theorem dX3_partingColumn_30 : decode cX3_partingColumn 30 = .ok (.isub, 1) := by decide +kernel
theorem dX3_partingColumn_31 : decode cX3_partingColumn 31 = .ok (.invokevirtual 109, 3) := by decide +kernel
theorem dX3_partingColumn_34 : decode cX3_partingColumn 34 = .ok (.ifCond .eq 5, 3) := by decide +kernel
theorem dX3_partingColumn_37 : decode cX3_partingColumn 37 = .ok (.iload_n 3, 1) := by decide +kernel
theorem dX3_partingColumn_38 : decode cX3_partingColumn 38 = .ok (.ireturn, 1) := by decide +kernel
theorem dX3_partingColumn_39 : decode cX3_partingColumn 39 = .ok (.iinc 3 1, 3) := by decide +kernel
theorem dX3_partingColumn_42 : decode cX3_partingColumn 42 = .ok (.goto (-40), 3) := by decide +kernel
theorem dX3_partingColumn_45 : decode cX3_partingColumn 45 = .ok (.bipush (-9), 2) := by decide +kernel
theorem dX3_partingColumn_47 : decode cX3_partingColumn 47 = .ok (.ireturn, 1) := by decide +kernel
set_option maxRecDepth 20000 in
theorem ggX3_chancesToCarry_X0_voteOf : GoodIn wsX3_chancesToCarry wsX0_voteOf := goodIn_r _ [8, 9, 10, 11, 12, 13, 7, 14, 15, 16, 17, 18, 19, 20, 21, 22, 23, 24, 25, 26, 27, 28, 29, 30, 31, 32, 33, 34, 35, 36, 37, 38, 39, 54, 55, 56, 57, 58, 59, 60, 61, 62, 63, 64, 65, 66, 67] (by decide +kernel) (by decide +kernel)
set_option maxRecDepth 20000 in
theorem gX3_chancesToCarry_X0_voteOf : GoodIn wsX3_chancesToCarry (wsV RX3 29 RX0 yX0_voteOf wsX0_voteOf) := goodIn_app (goodIn_of _ (by decide +kernel)) ggX3_chancesToCarry_X0_voteOf
set_option maxRecDepth 20000 in
theorem ggX3_chancesToCarry_X3_sumOfVotes : GoodIn wsX3_chancesToCarry wsX3_sumOfVotes := goodIn_r _ [44, 3, 2, 38, 36, 39, 68, 69, 70] (by decide +kernel) (by decide +kernel)
set_option maxRecDepth 20000 in
theorem gX3_chancesToCarry_X3_sumOfVotes : GoodIn wsX3_chancesToCarry (wsV RX3 43 RX3 yX3_sumOfVotes wsX3_sumOfVotes) := goodIn_app (goodIn_of _ (by decide +kernel)) ggX3_chancesToCarry_X3_sumOfVotes
set_option maxRecDepth 20000 in
theorem ggX3_chancesToCarry_J6_bitCount_0f7a4 : GoodIn wsX3_chancesToCarry wsJ6_bitCount_0f7a4 := goodIn_r _ [48, 49, 50, 51] (by decide +kernel) (by decide +kernel)
set_option maxRecDepth 20000 in
theorem gX3_chancesToCarry_J6_bitCount_0f7a4 : GoodIn wsX3_chancesToCarry (va_wsS RX3 37 yJ6_bitCount_0f7a4 wsJ6_bitCount_0f7a4) := goodIn_app (goodIn_of _ (by decide +kernel)) ggX3_chancesToCarry_J6_bitCount_0f7a4
set_option maxRecDepth 20000 in
theorem ggX3_chancesToCarry_X6_power : GoodIn wsX3_chancesToCarry wsX6_power := goodIn_r _ [53] (by decide +kernel) (by decide +kernel)
set_option maxRecDepth 20000 in
theorem gX3_chancesToCarry_X6_power_n113 : GoodIn wsX3_chancesToCarry (wsX6_power) := ggX3_chancesToCarry_X6_power
theorem dX3_chancesToCarry_0 : decode cX3_chancesToCarry 0 = .ok (.iconst 0, 1) := by decide +kernel
theorem dX3_chancesToCarry_1 : decode cX3_chancesToCarry 1 = .ok (.istore 4, 2) := by decide +kernel
theorem dX3_chancesToCarry_3 : decode cX3_chancesToCarry 3 = .ok (.iload 4, 2) := by decide +kernel
theorem dX3_chancesToCarry_5 : decode cX3_chancesToCarry 5 = .ok (.aload_n 1, 1) := by decide +kernel
theorem dX3_chancesToCarry_6 : decode cX3_chancesToCarry 6 = .ok (.getfield 25, 3) := by decide +kernel
theorem dX3_chancesToCarry_9 : decode cX3_chancesToCarry 9 = .ok (.if_icmp .ge 31, 3) := by decide +kernel
theorem dX3_chancesToCarry_12 : decode cX3_chancesToCarry 12 = .ok (.aload_n 0, 1) := by decide +kernel
theorem dX3_chancesToCarry_13 : decode cX3_chancesToCarry 13 = .ok (.getfield 18, 3) := by decide +kernel
theorem dX3_chancesToCarry_16 : decode cX3_chancesToCarry 16 = .ok (.iload 4, 2) := by decide +kernel
theorem dX3_chancesToCarry_18 : decode cX3_chancesToCarry 18 = .ok (.iconst 0, 1) := by decide +kernel
theorem dX3_chancesToCarry_19 : decode cX3_chancesToCarry 19 = .ok (.iastore, 1) := by decide +kernel
theorem dX3_chancesToCarry_20 : decode cX3_chancesToCarry 20 = .ok (.aload_n 0, 1) := by decide +kernel
theorem dX3_chancesToCarry_21 : decode cX3_chancesToCarry 21 = .ok (.getfield 22, 3) := by decide +kernel
theorem dX3_chancesToCarry_24 : decode cX3_chancesToCarry 24 = .ok (.iload 4, 2) := by decide +kernel
theorem dX3_chancesToCarry_26 : decode cX3_chancesToCarry 26 = .ok (.aload_n 1, 1) := by decide +kernel
theorem dX3_chancesToCarry_27 : decode cX3_chancesToCarry 27 = .ok (.iload 4, 2) := by decide +kernel
theorem dX3_chancesToCarry_29 : decode cX3_chancesToCarry 29 = .ok (.iload_n 2, 1) := by decide +kernel
theorem dX3_chancesToCarry_30 : decode cX3_chancesToCarry 30 = .ok (.invokevirtual 29, 3) := by decide +kernel
theorem dX3_chancesToCarry_33 : decode cX3_chancesToCarry 33 = .ok (.iastore, 1) := by decide +kernel
theorem dX3_chancesToCarry_34 : decode cX3_chancesToCarry 34 = .ok (.iinc 4 1, 3) := by decide +kernel
theorem dX3_chancesToCarry_37 : decode cX3_chancesToCarry 37 = .ok (.goto (-34), 3) := by decide +kernel
theorem dX3_chancesToCarry_40 : decode cX3_chancesToCarry 40 = .ok (.iconst 0, 1) := by decide +kernel
theorem dX3_chancesToCarry_41 : decode cX3_chancesToCarry 41 = .ok (.istore 4, 2) := by decide +kernel
theorem dX3_chancesToCarry_43 : decode cX3_chancesToCarry 43 = .ok (.iconst 0, 1) := by decide +kernel
theorem dX3_chancesToCarry_44 : decode cX3_chancesToCarry 44 = .ok (.istore 5, 2) := by decide +kernel
theorem dX3_chancesToCarry_46 : decode cX3_chancesToCarry 46 = .ok (.iload 5, 2) := by decide +kernel
theorem dX3_chancesToCarry_48 : decode cX3_chancesToCarry 48 = .ok (.iconst 1, 1) := by decide +kernel
theorem dX3_chancesToCarry_49 : decode cX3_chancesToCarry 49 = .ok (.aload_n 1, 1) := by decide +kernel
theorem dX3_chancesToCarry_50 : decode cX3_chancesToCarry 50 = .ok (.getfield 25, 3) := by decide +kernel
theorem dX3_chancesToCarry_53 : decode cX3_chancesToCarry 53 = .ok (.ishl, 1) := by decide +kernel
theorem dX3_chancesToCarry_54 : decode cX3_chancesToCarry 54 = .ok (.if_icmp .ge 55, 3) := by decide +kernel
theorem dX3_chancesToCarry_57 : decode cX3_chancesToCarry 57 = .ok (.aload_n 0, 1) := by decide +kernel
theorem dX3_chancesToCarry_58 : decode cX3_chancesToCarry 58 = .ok (.aload_n 1, 1) := by decide +kernel
theorem dX3_chancesToCarry_59 : decode cX3_chancesToCarry 59 = .ok (.getfield 25, 3) := by decide +kernel
theorem dX3_chancesToCarry_62 : decode cX3_chancesToCarry 62 = .ok (.iload 5, 2) := by decide +kernel
theorem dX3_chancesToCarry_64 : decode cX3_chancesToCarry 64 = .ok (.invokevirtual 43, 3) := by decide +kernel
theorem dX3_chancesToCarry_67 : decode cX3_chancesToCarry 67 = .ok (.ifCond .le 36, 3) := by decide +kernel
theorem dX3_chancesToCarry_70 : decode cX3_chancesToCarry 70 = .ok (.iload 5, 2) := by decide +kernel
theorem dX3_chancesToCarry_72 : decode cX3_chancesToCarry 72 = .ok (.invokestatic 37, 3) := by decide +kernel
theorem dX3_chancesToCarry_75 : decode cX3_chancesToCarry 75 = .ok (.istore 6, 2) := by decide +kernel
theorem dX3_chancesToCarry_77 : decode cX3_chancesToCarry 77 = .ok (.iload 4, 2) := by decide +kernel
theorem dX3_chancesToCarry_79 : decode cX3_chancesToCarry 79 = .ok (.iload_n 3, 1) := by decide +kernel
theorem dX3_chancesToCarry_80 : decode cX3_chancesToCarry 80 = .ok (.iload 6, 2) := by decide +kernel
theorem dX3_chancesToCarry_82 : decode cX3_chancesToCarry 82 = .ok (.invokestatic 113, 3) := by decide +kernel
theorem dX3_chancesToCarry_85 : decode cX3_chancesToCarry 85 = .ok (.bipush 10, 2) := by decide +kernel
theorem dX3_chancesToCarry_87 : decode cX3_chancesToCarry 87 = .ok (.iload_n 3, 1) := by decide +kernel
theorem dX3_chancesToCarry_88 : decode cX3_chancesToCarry 88 = .ok (.isub, 1) := by decide +kernel
theorem dX3_chancesToCarry_89 : decode cX3_chancesToCarry 89 = .ok (.aload_n 1, 1) := by decide +kernel
theorem dX3_chancesToCarry_90 : decode cX3_chancesToCarry 90 = .ok (.getfield 25, 3) := by decide +kernel
theorem dX3_chancesToCarry_93 : decode cX3_chancesToCarry 93 = .ok (.iload 6, 2) := by decide +kernel
theorem dX3_chancesToCarry_95 : decode cX3_chancesToCarry 95 = .ok (.isub, 1) := by decide +kernel
theorem dX3_chancesToCarry_96 : decode cX3_chancesToCarry 96 = .ok (.invokestatic 113, 3) := by decide +kernel
theorem dX3_chancesToCarry_99 : decode cX3_chancesToCarry 99 = .ok (.imul, 1) := by decide +kernel
theorem dX3_chancesToCarry_100 : decode cX3_chancesToCarry 100 = .ok (.iadd, 1) := by decide +kernel
theorem dX3_chancesToCarry_101 : decode cX3_chancesToCarry 101 = .ok (.istore 4, 2) := by decide +kernel
theorem dX3_chancesToCarry_103 : decode cX3_chancesToCarry 103 = .ok (.iinc 5 1, 3) := by decide +kernel
theorem dX3_chancesToCarry_106 : decode cX3_chancesToCarry 106 = .ok (.goto (-60), 3) := by decide +kernel
theorem dX3_chancesToCarry_109 : decode cX3_chancesToCarry 109 = .ok (.iload 4, 2) := by decide +kernel
theorem dX3_chancesToCarry_111 : decode cX3_chancesToCarry 111 = .ok (.ireturn, 1) := by decide +kernel
set_option maxRecDepth 20000 in
theorem ggX3_whoSways_X0_weightBehind : GoodIn wsX3_whoSways wsX0_weightBehind := goodIn_r _ [6, 7, 8, 9, 10, 11, 12, 5, 13, 14, 15, 16, 17, 18, 19, 20, 21, 22, 23, 24, 25, 26, 27, 28, 29, 30, 31, 32, 33, 34, 35, 36, 37, 38, 43, 44, 45, 46, 47, 48, 49, 50, 51, 52, 53, 54, 55, 56] (by decide +kernel) (by decide +kernel)
set_option maxRecDepth 20000 in
theorem gX3_whoSways_X0_weightBehind : GoodIn wsX3_whoSways (wsV RX3 116 RX0 yX0_weightBehind wsX0_weightBehind) := goodIn_app (goodIn_of _ (by decide +kernel)) ggX3_whoSways_X0_weightBehind
set_option maxRecDepth 20000 in
theorem ggX3_whoSways_X0_voteOf : GoodIn wsX3_whoSways wsX0_voteOf := goodIn_r _ [42, 8, 9, 10, 11, 12, 5, 13, 14, 15, 16, 17, 18, 19, 20, 21, 22, 23, 24, 25, 26, 27, 28, 29, 30, 31, 32, 33, 34, 35, 36, 37, 38, 43, 44, 45, 46, 47, 48, 49, 50, 51, 52, 53, 54, 55, 56] (by decide +kernel) (by decide +kernel)
set_option maxRecDepth 20000 in
theorem gX3_whoSways_X0_voteOf : GoodIn wsX3_whoSways (wsV RX3 29 RX0 yX0_voteOf wsX0_voteOf) := goodIn_app (goodIn_of _ (by decide +kernel)) ggX3_whoSways_X0_voteOf
theorem dX3_whoSways_0 : decode cX3_whoSways 0 = .ok (.aload_n 1, 1) := by decide +kernel
theorem dX3_whoSways_1 : decode cX3_whoSways 1 = .ok (.iload_n 2, 1) := by decide +kernel
theorem dX3_whoSways_2 : decode cX3_whoSways 2 = .ok (.iconst 1, 1) := by decide +kernel
theorem dX3_whoSways_3 : decode cX3_whoSways 3 = .ok (.invokevirtual 116, 3) := by decide +kernel
theorem dX3_whoSways_6 : decode cX3_whoSways 6 = .ok (.aload_n 1, 1) := by decide +kernel
theorem dX3_whoSways_7 : decode cX3_whoSways 7 = .ok (.iload_n 2, 1) := by decide +kernel
theorem dX3_whoSways_8 : decode cX3_whoSways 8 = .ok (.iconst (-1), 1) := by decide +kernel
theorem dX3_whoSways_9 : decode cX3_whoSways 9 = .ok (.invokevirtual 116, 3) := by decide +kernel
theorem dX3_whoSways_12 : decode cX3_whoSways 12 = .ok (.isub, 1) := by decide +kernel
theorem dX3_whoSways_13 : decode cX3_whoSways 13 = .ok (.istore_n 3, 1) := by decide +kernel
theorem dX3_whoSways_14 : decode cX3_whoSways 14 = .ok (.iconst 0, 1) := by decide +kernel
theorem dX3_whoSways_15 : decode cX3_whoSways 15 = .ok (.istore 4, 2) := by decide +kernel
theorem dX3_whoSways_17 : decode cX3_whoSways 17 = .ok (.iconst 0, 1) := by decide +kernel
theorem dX3_whoSways_18 : decode cX3_whoSways 18 = .ok (.istore 5, 2) := by decide +kernel
theorem dX3_whoSways_20 : decode cX3_whoSways 20 = .ok (.iload 5, 2) := by decide +kernel
theorem dX3_whoSways_22 : decode cX3_whoSways 22 = .ok (.aload_n 1, 1) := by decide +kernel
theorem dX3_whoSways_23 : decode cX3_whoSways 23 = .ok (.getfield 25, 3) := by decide +kernel
theorem dX3_whoSways_26 : decode cX3_whoSways 26 = .ok (.if_icmp .ge 51, 3) := by decide +kernel
theorem dX3_whoSways_29 : decode cX3_whoSways 29 = .ok (.iload_n 3, 1) := by decide +kernel
theorem dX3_whoSways_30 : decode cX3_whoSways 30 = .ok (.aload_n 1, 1) := by decide +kernel
theorem dX3_whoSways_31 : decode cX3_whoSways 31 = .ok (.iload 5, 2) := by decide +kernel
theorem dX3_whoSways_33 : decode cX3_whoSways 33 = .ok (.iload_n 2, 1) := by decide +kernel
theorem dX3_whoSways_34 : decode cX3_whoSways 34 = .ok (.invokevirtual 29, 3) := by decide +kernel
theorem dX3_whoSways_37 : decode cX3_whoSways 37 = .ok (.isub, 1) := by decide +kernel
theorem dX3_whoSways_38 : decode cX3_whoSways 38 = .ok (.istore 6, 2) := by decide +kernel
theorem dX3_whoSways_40 : decode cX3_whoSways 40 = .ok (.iload 6, 2) := by decide +kernel
theorem dX3_whoSways_42 : decode cX3_whoSways 42 = .ok (.ifCond .le 7, 3) := by decide +kernel
theorem dX3_whoSways_45 : decode cX3_whoSways 45 = .ok (.iconst 1, 1) := by decide +kernel
theorem dX3_whoSways_46 : decode cX3_whoSways 46 = .ok (.goto 4, 3) := by decide +kernel
theorem dX3_whoSways_49 : decode cX3_whoSways 49 = .ok (.iconst 0, 1) := by decide +kernel
theorem dX3_whoSways_50 : decode cX3_whoSways 50 = .ok (.iload_n 3, 1) := by decide +kernel
theorem dX3_whoSways_51 : decode cX3_whoSways 51 = .ok (.ifCond .le 7, 3) := by decide +kernel
theorem dX3_whoSways_54 : decode cX3_whoSways 54 = .ok (.iconst 1, 1) := by decide +kernel
theorem dX3_whoSways_55 : decode cX3_whoSways 55 = .ok (.goto 4, 3) := by decide +kernel
theorem dX3_whoSways_58 : decode cX3_whoSways 58 = .ok (.iconst 0, 1) := by decide +kernel
theorem dX3_whoSways_59 : decode cX3_whoSways 59 = .ok (.if_icmp .eq 12, 3) := by decide +kernel
theorem dX3_whoSways_62 : decode cX3_whoSways 62 = .ok (.iload 4, 2) := by decide +kernel
theorem dX3_whoSways_64 : decode cX3_whoSways 64 = .ok (.iconst 1, 1) := by decide +kernel
theorem dX3_whoSways_65 : decode cX3_whoSways 65 = .ok (.iload 5, 2) := by decide +kernel
theorem dX3_whoSways_67 : decode cX3_whoSways 67 = .ok (.ishl, 1) := by decide +kernel
theorem dX3_whoSways_68 : decode cX3_whoSways 68 = .ok (.ior, 1) := by decide +kernel
theorem dX3_whoSways_69 : decode cX3_whoSways 69 = .ok (.istore 4, 2) := by decide +kernel
theorem dX3_whoSways_71 : decode cX3_whoSways 71 = .ok (.iinc 5 1, 3) := by decide +kernel
theorem dX3_whoSways_74 : decode cX3_whoSways 74 = .ok (.goto (-54), 3) := by decide +kernel
theorem dX3_whoSways_77 : decode cX3_whoSways 77 = .ok (.iload 4, 2) := by decide +kernel
theorem dX3_whoSways_79 : decode cX3_whoSways 79 = .ok (.ireturn, 1) := by decide +kernel
set_option maxRecDepth 20000 in
theorem ggX3_nearestShade_X0_cells : GoodIn wsX3_nearestShade wsX0_cells := goodIn_r _ [5, 6, 7, 41, 42, 43, 44, 45, 46, 47, 48, 49, 50, 51, 52, 53, 54] (by decide +kernel) (by decide +kernel)
set_option maxRecDepth 20000 in
theorem gX3_nearestShade_X0_cells : GoodIn wsX3_nearestShade (wsV RX3 46 RX0 yX0_cells wsX0_cells) := goodIn_app (goodIn_of _ (by decide +kernel)) ggX3_nearestShade_X0_cells
set_option maxRecDepth 20000 in
theorem ggX3_nearestShade_X0_steps : GoodIn wsX3_nearestShade wsX0_steps := goodIn_r _ [11, 12, 13, 14, 15, 16, 17, 18, 4, 19, 6, 20, 21, 22, 23, 41, 42, 43, 44, 45, 46, 47, 48, 49, 50, 51, 52, 53, 54] (by decide +kernel) (by decide +kernel)
set_option maxRecDepth 20000 in
theorem gX3_nearestShade_X0_steps : GoodIn wsX3_nearestShade (wsV RX3 53 RX0 yX0_steps wsX0_steps) := goodIn_app (goodIn_of _ (by decide +kernel)) ggX3_nearestShade_X0_steps
set_option maxRecDepth 20000 in
theorem ggX3_nearestShade_X0_shadesAt : GoodIn wsX3_nearestShade wsX0_shadesAt := goodIn_r _ [27, 28, 29, 30, 31, 4, 32, 33, 34, 35, 6, 36, 37, 38, 39, 40, 41, 42, 43, 44, 45, 46, 47, 48, 49, 50, 51, 52, 53, 54] (by decide +kernel) (by decide +kernel)
set_option maxRecDepth 20000 in
theorem gX3_nearestShade_X0_shadesAt : GoodIn wsX3_nearestShade (wsV RX3 119 RX0 yX0_shadesAt wsX0_shadesAt) := goodIn_app (goodIn_of _ (by decide +kernel)) ggX3_nearestShade_X0_shadesAt
theorem dX3_nearestShade_0 : decode cX3_nearestShade 0 = .ok (.bipush (-9), 2) := by decide +kernel
theorem dX3_nearestShade_2 : decode cX3_nearestShade 2 = .ok (.istore_n 3, 1) := by decide +kernel
theorem dX3_nearestShade_3 : decode cX3_nearestShade 3 = .ok (.aload_n 1, 1) := by decide +kernel
theorem dX3_nearestShade_4 : decode cX3_nearestShade 4 = .ok (.invokevirtual 46, 3) := by decide +kernel
theorem dX3_nearestShade_7 : decode cX3_nearestShade 7 = .ok (.istore 4, 2) := by decide +kernel
theorem dX3_nearestShade_9 : decode cX3_nearestShade 9 = .ok (.iconst 0, 1) := by decide +kernel
theorem dX3_nearestShade_10 : decode cX3_nearestShade 10 = .ok (.istore 5, 2) := by decide +kernel
theorem dX3_nearestShade_12 : decode cX3_nearestShade 12 = .ok (.iload 5, 2) := by decide +kernel
theorem dX3_nearestShade_14 : decode cX3_nearestShade 14 = .ok (.aload_n 1, 1) := by decide +kernel
theorem dX3_nearestShade_15 : decode cX3_nearestShade 15 = .ok (.invokevirtual 46, 3) := by decide +kernel
theorem dX3_nearestShade_18 : decode cX3_nearestShade 18 = .ok (.if_icmp .ge 41, 3) := by decide +kernel
theorem dX3_nearestShade_21 : decode cX3_nearestShade 21 = .ok (.aload_n 1, 1) := by decide +kernel
theorem dX3_nearestShade_22 : decode cX3_nearestShade 22 = .ok (.iload_n 2, 1) := by decide +kernel
theorem dX3_nearestShade_23 : decode cX3_nearestShade 23 = .ok (.iload 5, 2) := by decide +kernel
theorem dX3_nearestShade_25 : decode cX3_nearestShade 25 = .ok (.invokevirtual 53, 3) := by decide +kernel
theorem dX3_nearestShade_28 : decode cX3_nearestShade 28 = .ok (.istore 6, 2) := by decide +kernel
theorem dX3_nearestShade_30 : decode cX3_nearestShade 30 = .ok (.iload 6, 2) := by decide +kernel
theorem dX3_nearestShade_32 : decode cX3_nearestShade 32 = .ok (.iload 4, 2) := by decide +kernel
theorem dX3_nearestShade_34 : decode cX3_nearestShade 34 = .ok (.if_icmp .ge 19, 3) := by decide +kernel
theorem dX3_nearestShade_37 : decode cX3_nearestShade 37 = .ok (.aload_n 1, 1) := by decide +kernel
theorem dX3_nearestShade_38 : decode cX3_nearestShade 38 = .ok (.iload 5, 2) := by decide +kernel
theorem dX3_nearestShade_40 : decode cX3_nearestShade 40 = .ok (.invokevirtual 119, 3) := by decide +kernel
theorem dX3_nearestShade_43 : decode cX3_nearestShade 43 = .ok (.ifCond .le 10, 3) := by decide +kernel
theorem dX3_nearestShade_46 : decode cX3_nearestShade 46 = .ok (.iload 5, 2) := by decide +kernel
theorem dX3_nearestShade_48 : decode cX3_nearestShade 48 = .ok (.istore_n 3, 1) := by decide +kernel
theorem dX3_nearestShade_49 : decode cX3_nearestShade 49 = .ok (.iload 6, 2) := by decide +kernel
theorem dX3_nearestShade_51 : decode cX3_nearestShade 51 = .ok (.istore 4, 2) := by decide +kernel
theorem dX3_nearestShade_53 : decode cX3_nearestShade 53 = .ok (.iinc 5 1, 3) := by decide +kernel
theorem dX3_nearestShade_56 : decode cX3_nearestShade 56 = .ok (.goto (-44), 3) := by decide +kernel
theorem dX3_nearestShade_59 : decode cX3_nearestShade 59 = .ok (.iload_n 3, 1) := by decide +kernel
theorem dX3_nearestShade_60 : decode cX3_nearestShade 60 = .ok (.ireturn, 1) := by decide +kernel
theorem dX4_init_0 : decode cX4_init 0 = .ok (.aload_n 0, 1) := by decide +kernel
theorem dX4_init_1 : decode cX4_init 1 = .ok (.invokespecial 3, 3) := by decide +kernel
theorem dX4_init_4 : decode cX4_init 4 = .ok (.aload_n 0, 1) := by decide +kernel
theorem dX4_init_5 : decode cX4_init 5 = .ok (.iconst 5, 1) := by decide +kernel
theorem dX4_init_6 : decode cX4_init 6 = .ok (.newarray .int, 2) := by decide +kernel
theorem dX4_init_8 : decode cX4_init 8 = .ok (.putfield 9, 3) := by decide +kernel
theorem dX4_init_11 : decode cX4_init 11 = .ok (.aload_n 0, 1) := by decide +kernel
theorem dX4_init_12 : decode cX4_init 12 = .ok (.iconst 5, 1) := by decide +kernel
theorem dX4_init_13 : decode cX4_init 13 = .ok (.newarray .int, 2) := by decide +kernel
theorem dX4_init_15 : decode cX4_init 15 = .ok (.putfield 15, 3) := by decide +kernel
theorem dX4_init_18 : decode cX4_init 18 = .ok (.return_, 1) := by decide +kernel
theorem dX4_add_0 : decode cX4_add 0 = .ok (.aload_n 0, 1) := by decide +kernel
theorem dX4_add_1 : decode cX4_add 1 = .ok (.getfield 18, 3) := by decide +kernel
theorem dX4_add_4 : decode cX4_add 4 = .ok (.iconst 5, 1) := by decide +kernel
theorem dX4_add_5 : decode cX4_add 5 = .ok (.if_icmp .lt 5, 3) := by decide +kernel
theorem dX4_add_8 : decode cX4_add 8 = .ok (.iconst 0, 1) := by decide +kernel
theorem dX4_add_9 : decode cX4_add 9 = .ok (.ireturn, 1) := by decide +kernel
theorem dX4_add_10 : decode cX4_add 10 = .ok (.aload_n 0, 1) := by decide +kernel
theorem dX4_add_11 : decode cX4_add 11 = .ok (.getfield 9, 3) := by decide +kernel
theorem dX4_add_14 : decode cX4_add 14 = .ok (.aload_n 0, 1) := by decide +kernel
theorem dX4_add_15 : decode cX4_add 15 = .ok (.getfield 18, 3) := by decide +kernel
theorem dX4_add_18 : decode cX4_add 18 = .ok (.iload_n 1, 1) := by decide +kernel
theorem dX4_add_19 : decode cX4_add 19 = .ok (.iastore, 1) := by decide +kernel
theorem dX4_add_20 : decode cX4_add 20 = .ok (.aload_n 0, 1) := by decide +kernel
theorem dX4_add_21 : decode cX4_add 21 = .ok (.getfield 15, 3) := by decide +kernel
theorem dX4_add_24 : decode cX4_add 24 = .ok (.aload_n 0, 1) := by decide +kernel
theorem dX4_add_25 : decode cX4_add 25 = .ok (.getfield 18, 3) := by decide +kernel
theorem dX4_add_28 : decode cX4_add 28 = .ok (.iload_n 2, 1) := by decide +kernel
theorem dX4_add_29 : decode cX4_add 29 = .ok (.iastore, 1) := by decide +kernel
theorem dX4_add_30 : decode cX4_add 30 = .ok (.aload_n 0, 1) := by decide +kernel
theorem dX4_add_31 : decode cX4_add 31 = .ok (.dup, 1) := by decide +kernel
theorem dX4_add_32 : decode cX4_add 32 = .ok (.getfield 18, 3) := by decide +kernel
theorem dX4_add_35 : decode cX4_add 35 = .ok (.iconst 1, 1) := by decide +kernel
theorem dX4_add_36 : decode cX4_add 36 = .ok (.iadd, 1) := by decide +kernel
theorem dX4_add_37 : decode cX4_add 37 = .ok (.putfield 18, 3) := by decide +kernel
theorem dX4_add_40 : decode cX4_add 40 = .ok (.iconst 1, 1) := by decide +kernel
theorem dX4_add_41 : decode cX4_add 41 = .ok (.ireturn, 1) := by decide +kernel
theorem dX4_empty_0 : decode cX4_empty 0 = .ok (.aload_n 0, 1) := by decide +kernel
theorem dX4_empty_1 : decode cX4_empty 1 = .ok (.getfield 18, 3) := by decide +kernel
theorem dX4_empty_4 : decode cX4_empty 4 = .ok (.istore_n 1, 1) := by decide +kernel
theorem dX4_empty_5 : decode cX4_empty 5 = .ok (.aload_n 0, 1) := by decide +kernel
theorem dX4_empty_6 : decode cX4_empty 6 = .ok (.iconst 0, 1) := by decide +kernel
theorem dX4_empty_7 : decode cX4_empty 7 = .ok (.putfield 18, 3) := by decide +kernel
theorem dX4_empty_10 : decode cX4_empty 10 = .ok (.iload_n 1, 1) := by decide +kernel
theorem dX4_empty_11 : decode cX4_empty 11 = .ok (.ireturn, 1) := by decide +kernel
set_option maxRecDepth 20000 in
theorem ggX4_isSoIn_X0_weightBehind : GoodIn wsX4_isSoIn wsX0_weightBehind := goodIn_r _ [8, 9, 10, 11, 12, 13, 14, 7, 15, 16, 17, 18, 19, 20, 21, 22, 23, 24, 25, 26, 27, 28, 29, 30, 31, 32, 33, 34, 35, 36, 37, 38, 39, 40, 44, 45, 46, 47, 48, 49, 50, 51, 52, 53, 54, 55, 56, 57] (by decide +kernel) (by decide +kernel)
set_option maxRecDepth 20000 in
theorem gX4_isSoIn_X0_weightBehind : GoodIn wsX4_isSoIn (wsV RX4 22 RX0 yX0_weightBehind wsX0_weightBehind) := goodIn_app (goodIn_of _ (by decide +kernel)) ggX4_isSoIn_X0_weightBehind
theorem dX4_isSoIn_0 : decode cX4_isSoIn 0 = .ok (.iconst 0, 1) := by decide +kernel
theorem dX4_isSoIn_1 : decode cX4_isSoIn 1 = .ok (.istore_n 2, 1) := by decide +kernel
theorem dX4_isSoIn_2 : decode cX4_isSoIn 2 = .ok (.iload_n 2, 1) := by decide +kernel
theorem dX4_isSoIn_3 : decode cX4_isSoIn 3 = .ok (.aload_n 0, 1) := by decide +kernel
theorem dX4_isSoIn_4 : decode cX4_isSoIn 4 = .ok (.getfield 18, 3) := by decide +kernel
theorem dX4_isSoIn_7 : decode cX4_isSoIn 7 = .ok (.if_icmp .ge 31, 3) := by decide +kernel
theorem dX4_isSoIn_10 : decode cX4_isSoIn 10 = .ok (.aload_n 1, 1) := by decide +kernel
theorem dX4_isSoIn_11 : decode cX4_isSoIn 11 = .ok (.aload_n 0, 1) := by decide +kernel
theorem dX4_isSoIn_12 : decode cX4_isSoIn 12 = .ok (.getfield 9, 3) := by decide +kernel
theorem dX4_isSoIn_15 : decode cX4_isSoIn 15 = .ok (.iload_n 2, 1) := by decide +kernel
theorem dX4_isSoIn_16 : decode cX4_isSoIn 16 = .ok (.iaload, 1) := by decide +kernel
theorem dX4_isSoIn_17 : decode cX4_isSoIn 17 = .ok (.iconst 1, 1) := by decide +kernel
theorem dX4_isSoIn_18 : decode cX4_isSoIn 18 = .ok (.invokevirtual 22, 3) := by decide +kernel
theorem dX4_isSoIn_21 : decode cX4_isSoIn 21 = .ok (.aload_n 0, 1) := by decide +kernel
theorem dX4_isSoIn_22 : decode cX4_isSoIn 22 = .ok (.getfield 15, 3) := by decide +kernel
theorem dX4_isSoIn_25 : decode cX4_isSoIn 25 = .ok (.iload_n 2, 1) := by decide +kernel
theorem dX4_isSoIn_26 : decode cX4_isSoIn 26 = .ok (.iaload, 1) := by decide +kernel
theorem dX4_isSoIn_27 : decode cX4_isSoIn 27 = .ok (.if_icmp .eq 5, 3) := by decide +kernel
theorem dX4_isSoIn_30 : decode cX4_isSoIn 30 = .ok (.iconst 0, 1) := by decide +kernel
theorem dX4_isSoIn_31 : decode cX4_isSoIn 31 = .ok (.ireturn, 1) := by decide +kernel
theorem dX4_isSoIn_32 : decode cX4_isSoIn 32 = .ok (.iinc 2 1, 3) := by decide +kernel
theorem dX4_isSoIn_35 : decode cX4_isSoIn 35 = .ok (.goto (-33), 3) := by decide +kernel
theorem dX4_isSoIn_38 : decode cX4_isSoIn 38 = .ok (.iconst 1, 1) := by decide +kernel
theorem dX4_isSoIn_39 : decode cX4_isSoIn 39 = .ok (.ireturn, 1) := by decide +kernel
theorem dX5_init_0 : decode cX5_init 0 = .ok (.aload_n 0, 1) := by decide +kernel
theorem dX5_init_1 : decode cX5_init 1 = .ok (.invokespecial 3, 3) := by decide +kernel
theorem dX5_init_4 : decode cX5_init 4 = .ok (.aload_n 0, 1) := by decide +kernel
theorem dX5_init_5 : decode cX5_init 5 = .ok (.sipush 200, 3) := by decide +kernel
theorem dX5_init_8 : decode cX5_init 8 = .ok (.newarray .char, 2) := by decide +kernel
theorem dX5_init_10 : decode cX5_init 10 = .ok (.putfield 9, 3) := by decide +kernel
theorem dX5_init_13 : decode cX5_init 13 = .ok (.return_, 1) := by decide +kernel
theorem dX5_add_0 : decode cX5_add 0 = .ok (.aload_n 0, 1) := by decide +kernel
theorem dX5_add_1 : decode cX5_add 1 = .ok (.getfield 15, 3) := by decide +kernel
theorem dX5_add_4 : decode cX5_add 4 = .ok (.sipush 200, 3) := by decide +kernel
theorem dX5_add_7 : decode cX5_add 7 = .ok (.if_icmp .lt 5, 3) := by decide +kernel
theorem dX5_add_10 : decode cX5_add 10 = .ok (.iconst 0, 1) := by decide +kernel
theorem dX5_add_11 : decode cX5_add 11 = .ok (.ireturn, 1) := by decide +kernel
theorem dX5_add_12 : decode cX5_add 12 = .ok (.aload_n 0, 1) := by decide +kernel
theorem dX5_add_13 : decode cX5_add 13 = .ok (.getfield 9, 3) := by decide +kernel
theorem dX5_add_16 : decode cX5_add 16 = .ok (.aload_n 0, 1) := by decide +kernel
theorem dX5_add_17 : decode cX5_add 17 = .ok (.getfield 15, 3) := by decide +kernel
theorem dX5_add_20 : decode cX5_add 20 = .ok (.iload_n 1, 1) := by decide +kernel
theorem dX5_add_21 : decode cX5_add 21 = .ok (.i2c, 1) := by decide +kernel
theorem dX5_add_22 : decode cX5_add 22 = .ok (.castore, 1) := by decide +kernel
theorem dX5_add_23 : decode cX5_add 23 = .ok (.aload_n 0, 1) := by decide +kernel
theorem dX5_add_24 : decode cX5_add 24 = .ok (.dup, 1) := by decide +kernel
