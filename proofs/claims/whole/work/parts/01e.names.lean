theorem dX7_prune_55 : decode cX7_prune 55 = .ok (.getfield 32, 3) := by decide +kernel
theorem dX7_prune_58 : decode cX7_prune 58 = .ok (.iconst 0, 1) := by decide +kernel
theorem dX7_prune_59 : decode cX7_prune 59 = .ok (.invokestatic 115, 3) := by decide +kernel
theorem dX7_prune_62 : decode cX7_prune 62 = .ok (.aload_n 0, 1) := by decide +kernel
theorem dX7_prune_63 : decode cX7_prune 63 = .ok (.getfield 32, 3) := by decide +kernel
theorem dX7_prune_66 : decode cX7_prune 66 = .ok (.bipush 9, 2) := by decide +kernel
theorem dX7_prune_68 : decode cX7_prune 68 = .ok (.iload_n 3, 1) := by decide +kernel
theorem dX7_prune_69 : decode cX7_prune 69 = .ok (.iadd, 1) := by decide +kernel
theorem dX7_prune_70 : decode cX7_prune 70 = .ok (.aload_n 0, 1) := by decide +kernel
theorem dX7_prune_71 : decode cX7_prune 71 = .ok (.getfield 29, 3) := by decide +kernel
theorem dX7_prune_74 : decode cX7_prune 74 = .ok (.bipush 9, 2) := by decide +kernel
theorem dX7_prune_76 : decode cX7_prune 76 = .ok (.iload_n 3, 1) := by decide +kernel
theorem dX7_prune_77 : decode cX7_prune 77 = .ok (.iadd, 1) := by decide +kernel
theorem dX7_prune_78 : decode cX7_prune 78 = .ok (.iaload, 1) := by decide +kernel
theorem dX7_prune_79 : decode cX7_prune 79 = .ok (.iload_n 2, 1) := by decide +kernel
theorem dX7_prune_80 : decode cX7_prune 80 = .ok (.if_icmp .le 17, 3) := by decide +kernel
theorem dX7_prune_83 : decode cX7_prune 83 = .ok (.aload_n 0, 1) := by decide +kernel
theorem dX7_prune_84 : decode cX7_prune 84 = .ok (.getfield 29, 3) := by decide +kernel
theorem dX7_prune_87 : decode cX7_prune 87 = .ok (.bipush 9, 2) := by decide +kernel
theorem dX7_prune_89 : decode cX7_prune 89 = .ok (.iload_n 3, 1) := by decide +kernel
theorem dX7_prune_90 : decode cX7_prune 90 = .ok (.iadd, 1) := by decide +kernel
theorem dX7_prune_91 : decode cX7_prune 91 = .ok (.iaload, 1) := by decide +kernel
theorem dX7_prune_92 : decode cX7_prune 92 = .ok (.iload_n 2, 1) := by decide +kernel
theorem dX7_prune_93 : decode cX7_prune 93 = .ok (.isub, 1) := by decide +kernel
theorem dX7_prune_94 : decode cX7_prune 94 = .ok (.goto 4, 3) := by decide +kernel
theorem dX7_prune_97 : decode cX7_prune 97 = .ok (.iconst 0, 1) := by decide +kernel
theorem dX7_prune_98 : decode cX7_prune 98 = .ok (.iastore, 1) := by decide +kernel
theorem dX7_prune_99 : decode cX7_prune 99 = .ok (.aload_n 0, 1) := by decide +kernel
theorem dX7_prune_100 : decode cX7_prune 100 = .ok (.aload_n 0, 1) := by decide +kernel
theorem dX7_prune_101 : decode cX7_prune 101 = .ok (.getfield 32, 3) := by decide +kernel
theorem dX7_prune_104 : decode cX7_prune 104 = .ok (.iload_n 1, 1) := by decide +kernel
theorem dX7_prune_105 : decode cX7_prune 105 = .ok (.aload_n 0, 1) := by decide +kernel
theorem dX7_prune_106 : decode cX7_prune 106 = .ok (.invokevirtual 160, 3) := by decide +kernel
theorem dX7_prune_109 : decode cX7_prune 109 = .ok (.invokevirtual 164, 3) := by decide +kernel
theorem dX7_prune_112 : decode cX7_prune 112 = .ok (.ifCond .le 10, 3) := by decide +kernel
theorem dX7_prune_115 : decode cX7_prune 115 = .ok (.bipush 100, 2) := by decide +kernel
theorem dX7_prune_117 : decode cX7_prune 117 = .ok (.iload_n 3, 1) := by decide +kernel
theorem dX7_prune_118 : decode cX7_prune 118 = .ok (.imul, 1) := by decide +kernel
theorem dX7_prune_119 : decode cX7_prune 119 = .ok (.iload_n 2, 1) := by decide +kernel
theorem dX7_prune_120 : decode cX7_prune 120 = .ok (.iadd, 1) := by decide +kernel
theorem dX7_prune_121 : decode cX7_prune 121 = .ok (.ireturn, 1) := by decide +kernel
theorem dX7_prune_122 : decode cX7_prune 122 = .ok (.iinc 3 1, 3) := by decide +kernel
theorem dX7_prune_125 : decode cX7_prune 125 = .ok (.goto (-86), 3) := by decide +kernel
theorem dX7_prune_128 : decode cX7_prune 128 = .ok (.iinc 2 1, 3) := by decide +kernel
theorem dX7_prune_131 : decode cX7_prune 131 = .ok (.goto (-100), 3) := by decide +kernel
theorem dX7_prune_134 : decode cX7_prune 134 = .ok (.bipush (-9), 2) := by decide +kernel
theorem dX7_prune_136 : decode cX7_prune 136 = .ok (.ireturn, 1) := by decide +kernel
set_option maxRecDepth 20000 in
theorem ggX7_plant_X7_in : GoodIn wsX7_plant wsX7_in := goodIn_r _ [10] (by decide +kernel) (by decide +kernel)
set_option maxRecDepth 20000 in
theorem gX7_plant_X7_in : GoodIn wsX7_plant (va_wsS RX7 51 yX7_in wsX7_in) := goodIn_app (goodIn_of _ (by decide +kernel)) ggX7_plant_X7_in
set_option maxRecDepth 20000 in
theorem ggX7_plant_X7_isTaken : GoodIn wsX7_plant wsX7_isTaken := goodIn_r _ [14, 6, 48, 49, 50, 51, 52, 53, 54, 55, 56, 57, 58, 59, 60, 61, 62, 63, 64, 65, 66, 67, 68, 69, 70, 71, 72, 73, 74, 75, 76] (by decide +kernel) (by decide +kernel)
set_option maxRecDepth 20000 in
theorem gX7_plant_X7_isTaken : GoodIn wsX7_plant (wsV RX7 176 RX7 yX7_isTaken wsX7_isTaken) := goodIn_app (goodIn_of _ (by decide +kernel)) ggX7_plant_X7_isTaken
set_option maxRecDepth 20000 in
theorem ggX7_plant_X7_everybody : GoodIn wsX7_plant wsX7_everybody := goodIn_r _ [18, 19, 48, 49, 50, 51, 52, 53, 54, 55, 56, 57, 58, 59, 60, 61, 62, 63, 64, 65, 66, 67, 68, 69, 70, 71, 72, 73, 74, 75, 76] (by decide +kernel) (by decide +kernel)
set_option maxRecDepth 20000 in
theorem gX7_plant_X7_everybody : GoodIn wsX7_plant (wsV RX7 160 RX7 yX7_everybody wsX7_everybody) := goodIn_app (goodIn_of _ (by decide +kernel)) ggX7_plant_X7_everybody
set_option maxRecDepth 20000 in
theorem ggX7_plant_X7_balance : GoodIn wsX7_plant wsX7_balance := goodIn_r _ [23, 19, 24, 25, 26, 9, 27, 28, 29, 30, 31, 32, 33, 34, 35, 3, 4, 36, 37, 38, 39, 40, 41, 42, 43, 1, 44, 45, 46, 47, 5, 48, 49, 50, 51, 52, 53, 54, 55, 56, 57, 58, 59, 60, 61, 62, 63, 64, 65, 66, 67, 68, 69, 70, 71, 72, 73, 74, 75, 76] (by decide +kernel) (by decide +kernel)
set_option maxRecDepth 20000 in
theorem gX7_plant_X7_balance : GoodIn wsX7_plant (wsV RX7 164 RX7 yX7_balance wsX7_balance) := goodIn_app (goodIn_of _ (by decide +kernel)) ggX7_plant_X7_balance
theorem dX7_plant_0 : decode cX7_plant 0 = .ok (.iload_n 1, 1) := by decide +kernel
theorem dX7_plant_1 : decode cX7_plant 1 = .ok (.iconst 0, 1) := by decide +kernel
theorem dX7_plant_2 : decode cX7_plant 2 = .ok (.iconst 2, 1) := by decide +kernel
theorem dX7_plant_3 : decode cX7_plant 3 = .ok (.invokestatic 51, 3) := by decide +kernel
theorem dX7_plant_6 : decode cX7_plant 6 = .ok (.ifCond .eq 13, 3) := by decide +kernel
theorem dX7_plant_9 : decode cX7_plant 9 = .ok (.iload_n 2, 1) := by decide +kernel
theorem dX7_plant_10 : decode cX7_plant 10 = .ok (.iconst 1, 1) := by decide +kernel
theorem dX7_plant_11 : decode cX7_plant 11 = .ok (.bipush 20, 2) := by decide +kernel
theorem dX7_plant_13 : decode cX7_plant 13 = .ok (.invokestatic 51, 3) := by decide +kernel
theorem dX7_plant_16 : decode cX7_plant 16 = .ok (.ifCond .ne 5, 3) := by decide +kernel
theorem dX7_plant_19 : decode cX7_plant 19 = .ok (.iconst (-1), 1) := by decide +kernel
theorem dX7_plant_20 : decode cX7_plant 20 = .ok (.ireturn, 1) := by decide +kernel
theorem dX7_plant_21 : decode cX7_plant 21 = .ok (.bipush (-9), 2) := by decide +kernel
theorem dX7_plant_23 : decode cX7_plant 23 = .ok (.istore_n 3, 1) := by decide +kernel
theorem dX7_plant_24 : decode cX7_plant 24 = .ok (.aload_n 0, 1) := by decide +kernel
theorem dX7_plant_25 : decode cX7_plant 25 = .ok (.getfield 19, 3) := by decide +kernel
theorem dX7_plant_28 : decode cX7_plant 28 = .ok (.aload_n 0, 1) := by decide +kernel
theorem dX7_plant_29 : decode cX7_plant 29 = .ok (.getfield 23, 3) := by decide +kernel
theorem dX7_plant_32 : decode cX7_plant 32 = .ok (.imul, 1) := by decide +kernel
theorem dX7_plant_33 : decode cX7_plant 33 = .ok (.iconst 1, 1) := by decide +kernel
theorem dX7_plant_34 : decode cX7_plant 34 = .ok (.isub, 1) := by decide +kernel
theorem dX7_plant_35 : decode cX7_plant 35 = .ok (.istore 4, 2) := by decide +kernel
theorem dX7_plant_37 : decode cX7_plant 37 = .ok (.iload 4, 2) := by decide +kernel
theorem dX7_plant_39 : decode cX7_plant 39 = .ok (.ifCond .lt 70, 3) := by decide +kernel
theorem dX7_plant_42 : decode cX7_plant 42 = .ok (.aload_n 0, 1) := by decide +kernel
theorem dX7_plant_43 : decode cX7_plant 43 = .ok (.aload_n 0, 1) := by decide +kernel
theorem dX7_plant_44 : decode cX7_plant 44 = .ok (.iload 4, 2) := by decide +kernel
theorem dX7_plant_46 : decode cX7_plant 46 = .ok (.invokevirtual 176, 3) := by decide +kernel
theorem dX7_plant_49 : decode cX7_plant 49 = .ok (.ifCond .eq 7, 3) := by decide +kernel
theorem dX7_plant_52 : decode cX7_plant 52 = .ok (.iconst (-1), 1) := by decide +kernel
theorem dX7_plant_53 : decode cX7_plant 53 = .ok (.goto 5, 3) := by decide +kernel
theorem dX7_plant_56 : decode cX7_plant 56 = .ok (.iload 4, 2) := by decide +kernel
theorem dX7_plant_58 : decode cX7_plant 58 = .ok (.putfield 48, 3) := by decide +kernel
theorem dX7_plant_61 : decode cX7_plant 61 = .ok (.aload_n 0, 1) := by decide +kernel
theorem dX7_plant_62 : decode cX7_plant 62 = .ok (.iload_n 2, 1) := by decide +kernel
theorem dX7_plant_63 : decode cX7_plant 63 = .ok (.putfield 136, 3) := by decide +kernel
theorem dX7_plant_66 : decode cX7_plant 66 = .ok (.aload_n 0, 1) := by decide +kernel
theorem dX7_plant_67 : decode cX7_plant 67 = .ok (.iconst 1, 1) := by decide +kernel
theorem dX7_plant_68 : decode cX7_plant 68 = .ok (.iload_n 1, 1) := by decide +kernel
theorem dX7_plant_69 : decode cX7_plant 69 = .ok (.ishl, 1) := by decide +kernel
theorem dX7_plant_70 : decode cX7_plant 70 = .ok (.putfield 139, 3) := by decide +kernel
theorem dX7_plant_73 : decode cX7_plant 73 = .ok (.aload_n 0, 1) := by decide +kernel
theorem dX7_plant_74 : decode cX7_plant 74 = .ok (.getfield 48, 3) := by decide +kernel
theorem dX7_plant_77 : decode cX7_plant 77 = .ok (.ifCond .lt 24, 3) := by decide +kernel
theorem dX7_plant_80 : decode cX7_plant 80 = .ok (.aload_n 0, 1) := by decide +kernel
theorem dX7_plant_81 : decode cX7_plant 81 = .ok (.aload_n 0, 1) := by decide +kernel
theorem dX7_plant_82 : decode cX7_plant 82 = .ok (.getfield 29, 3) := by decide +kernel
theorem dX7_plant_85 : decode cX7_plant 85 = .ok (.iload_n 1, 1) := by decide +kernel
theorem dX7_plant_86 : decode cX7_plant 86 = .ok (.aload_n 0, 1) := by decide +kernel
theorem dX7_plant_87 : decode cX7_plant 87 = .ok (.invokevirtual 160, 3) := by decide +kernel
theorem dX7_plant_90 : decode cX7_plant 90 = .ok (.invokevirtual 164, 3) := by decide +kernel
theorem dX7_plant_93 : decode cX7_plant 93 = .ok (.ifCond .le 8, 3) := by decide +kernel
theorem dX7_plant_96 : decode cX7_plant 96 = .ok (.iload 4, 2) := by decide +kernel
theorem dX7_plant_98 : decode cX7_plant 98 = .ok (.goto 4, 3) := by decide +kernel
theorem dX7_plant_101 : decode cX7_plant 101 = .ok (.iload_n 3, 1) := by decide +kernel
theorem dX7_plant_102 : decode cX7_plant 102 = .ok (.istore_n 3, 1) := by decide +kernel
theorem dX7_plant_103 : decode cX7_plant 103 = .ok (.iinc 4 (-1), 3) := by decide +kernel
theorem dX7_plant_106 : decode cX7_plant 106 = .ok (.goto (-69), 3) := by decide +kernel
theorem dX7_plant_109 : decode cX7_plant 109 = .ok (.aload_n 0, 1) := by decide +kernel
theorem dX7_plant_110 : decode cX7_plant 110 = .ok (.iconst (-1), 1) := by decide +kernel
theorem dX7_plant_111 : decode cX7_plant 111 = .ok (.putfield 48, 3) := by decide +kernel
theorem dX7_plant_114 : decode cX7_plant 114 = .ok (.iload_n 3, 1) := by decide +kernel
theorem dX7_plant_115 : decode cX7_plant 115 = .ok (.ireturn, 1) := by decide +kernel
set_option maxRecDepth 20000 in
theorem ggX7_suns_X7_in : GoodIn wsX7_suns wsX7_in := goodIn_r _ [6] (by decide +kernel) (by decide +kernel)
set_option maxRecDepth 20000 in
theorem gX7_suns_X7_in : GoodIn wsX7_suns (va_wsS RX7 51 yX7_in wsX7_in) := goodIn_app (goodIn_of _ (by decide +kernel)) ggX7_suns_X7_in
set_option maxRecDepth 20000 in
theorem ggX7_suns_X7_copy : GoodIn wsX7_suns wsX7_copy := goodIn_r _ [9] (by decide +kernel) (by decide +kernel)
set_option maxRecDepth 20000 in
theorem gX7_suns_X7_copy : GoodIn wsX7_suns (va_wsS RX7 115 yX7_copy wsX7_copy) := goodIn_app (goodIn_of _ (by decide +kernel)) ggX7_suns_X7_copy
set_option maxRecDepth 20000 in
theorem ggX7_suns_X7_everybody : GoodIn wsX7_suns wsX7_everybody := goodIn_r _ [13, 14, 47, 48, 49, 50, 51, 52, 53, 54, 55, 56, 57, 58, 59, 60, 61, 62, 63, 64, 65, 66, 67, 68, 69, 70, 71, 72, 73, 74, 75] (by decide +kernel) (by decide +kernel)
set_option maxRecDepth 20000 in
theorem gX7_suns_X7_everybody : GoodIn wsX7_suns (wsV RX7 160 RX7 yX7_everybody wsX7_everybody) := goodIn_app (goodIn_of _ (by decide +kernel)) ggX7_suns_X7_everybody
set_option maxRecDepth 20000 in
theorem ggX7_suns_X7_balance : GoodIn wsX7_suns wsX7_balance := goodIn_r _ [18, 14, 19, 20, 21, 5, 22, 23, 24, 25, 26, 27, 28, 29, 30, 31, 32, 33, 34, 35, 36, 37, 38, 39, 40, 41, 42, 43, 44, 45, 46, 47, 48, 49, 50, 51, 52, 53, 54, 55, 56, 57, 58, 59, 60, 61, 62, 63, 64, 65, 66, 67, 68, 69, 70, 71, 72, 73, 74, 75] (by decide +kernel) (by decide +kernel)
set_option maxRecDepth 20000 in
theorem gX7_suns_X7_balance : GoodIn wsX7_suns (wsV RX7 164 RX7 yX7_balance wsX7_balance) := goodIn_app (goodIn_of _ (by decide +kernel)) ggX7_suns_X7_balance
theorem dX7_suns_0 : decode cX7_suns 0 = .ok (.iload_n 1, 1) := by decide +kernel
theorem dX7_suns_1 : decode cX7_suns 1 = .ok (.iconst 0, 1) := by decide +kernel
theorem dX7_suns_2 : decode cX7_suns 2 = .ok (.iconst 2, 1) := by decide +kernel
theorem dX7_suns_3 : decode cX7_suns 3 = .ok (.invokestatic 51, 3) := by decide +kernel
theorem dX7_suns_6 : decode cX7_suns 6 = .ok (.ifCond .ne 5, 3) := by decide +kernel
theorem dX7_suns_9 : decode cX7_suns 9 = .ok (.iconst (-1), 1) := by decide +kernel
theorem dX7_suns_10 : decode cX7_suns 10 = .ok (.ireturn, 1) := by decide +kernel
theorem dX7_suns_11 : decode cX7_suns 11 = .ok (.iconst 0, 1) := by decide +kernel
theorem dX7_suns_12 : decode cX7_suns 12 = .ok (.istore_n 2, 1) := by decide +kernel
theorem dX7_suns_13 : decode cX7_suns 13 = .ok (.iconst 1, 1) := by decide +kernel
theorem dX7_suns_14 : decode cX7_suns 14 = .ok (.istore_n 3, 1) := by decide +kernel
theorem dX7_suns_15 : decode cX7_suns 15 = .ok (.iload_n 3, 1) := by decide +kernel
theorem dX7_suns_16 : decode cX7_suns 16 = .ok (.bipush 9, 2) := by decide +kernel
theorem dX7_suns_18 : decode cX7_suns 18 = .ok (.if_icmp .gt 57, 3) := by decide +kernel
theorem dX7_suns_21 : decode cX7_suns 21 = .ok (.aload_n 0, 1) := by decide +kernel
theorem dX7_suns_22 : decode cX7_suns 22 = .ok (.getfield 29, 3) := by decide +kernel
theorem dX7_suns_25 : decode cX7_suns 25 = .ok (.iconst 0, 1) := by decide +kernel
theorem dX7_suns_26 : decode cX7_suns 26 = .ok (.aload_n 0, 1) := by decide +kernel
theorem dX7_suns_27 : decode cX7_suns 27 = .ok (.getfield 32, 3) := by decide +kernel
theorem dX7_suns_30 : decode cX7_suns 30 = .ok (.iconst 0, 1) := by decide +kernel
theorem dX7_suns_31 : decode cX7_suns 31 = .ok (.invokestatic 115, 3) := by decide +kernel
theorem dX7_suns_34 : decode cX7_suns 34 = .ok (.aload_n 0, 1) := by decide +kernel
theorem dX7_suns_35 : decode cX7_suns 35 = .ok (.getfield 32, 3) := by decide +kernel
theorem dX7_suns_38 : decode cX7_suns 38 = .ok (.iconst 1, 1) := by decide +kernel
theorem dX7_suns_39 : decode cX7_suns 39 = .ok (.iload_n 3, 1) := by decide +kernel
theorem dX7_suns_40 : decode cX7_suns 40 = .ok (.iastore, 1) := by decide +kernel
theorem dX7_suns_41 : decode cX7_suns 41 = .ok (.iload_n 2, 1) := by decide +kernel
theorem dX7_suns_42 : decode cX7_suns 42 = .ok (.aload_n 0, 1) := by decide +kernel
theorem dX7_suns_43 : decode cX7_suns 43 = .ok (.aload_n 0, 1) := by decide +kernel
theorem dX7_suns_44 : decode cX7_suns 44 = .ok (.getfield 32, 3) := by decide +kernel
theorem dX7_suns_47 : decode cX7_suns 47 = .ok (.iload_n 1, 1) := by decide +kernel
theorem dX7_suns_48 : decode cX7_suns 48 = .ok (.aload_n 0, 1) := by decide +kernel
theorem dX7_suns_49 : decode cX7_suns 49 = .ok (.invokevirtual 160, 3) := by decide +kernel
theorem dX7_suns_52 : decode cX7_suns 52 = .ok (.invokevirtual 164, 3) := by decide +kernel
theorem dX7_suns_55 : decode cX7_suns 55 = .ok (.ifCond .le 11, 3) := by decide +kernel
theorem dX7_suns_58 : decode cX7_suns 58 = .ok (.iconst 1, 1) := by decide +kernel
theorem dX7_suns_59 : decode cX7_suns 59 = .ok (.iload_n 3, 1) := by decide +kernel
theorem dX7_suns_60 : decode cX7_suns 60 = .ok (.iconst 1, 1) := by decide +kernel
theorem dX7_suns_61 : decode cX7_suns 61 = .ok (.isub, 1) := by decide +kernel
theorem dX7_suns_62 : decode cX7_suns 62 = .ok (.ishl, 1) := by decide +kernel
theorem dX7_suns_63 : decode cX7_suns 63 = .ok (.goto 4, 3) := by decide +kernel
theorem dX7_suns_66 : decode cX7_suns 66 = .ok (.iconst 0, 1) := by decide +kernel
theorem dX7_suns_67 : decode cX7_suns 67 = .ok (.ior, 1) := by decide +kernel
theorem dX7_suns_68 : decode cX7_suns 68 = .ok (.istore_n 2, 1) := by decide +kernel
theorem dX7_suns_69 : decode cX7_suns 69 = .ok (.iinc 3 1, 3) := by decide +kernel
theorem dX7_suns_72 : decode cX7_suns 72 = .ok (.goto (-57), 3) := by decide +kernel
theorem dX7_suns_75 : decode cX7_suns 75 = .ok (.iload_n 2, 1) := by decide +kernel
theorem dX7_suns_76 : decode cX7_suns 76 = .ok (.ireturn, 1) := by decide +kernel
set_option maxRecDepth 20000 in
theorem ggX7_hedge_X7_in : GoodIn wsX7_hedge wsX7_in := goodIn_r _ [7] (by decide +kernel) (by decide +kernel)
set_option maxRecDepth 20000 in
theorem gX7_hedge_X7_in : GoodIn wsX7_hedge (va_wsS RX7 51 yX7_in wsX7_in) := goodIn_app (goodIn_of _ (by decide +kernel)) ggX7_hedge_X7_in
set_option maxRecDepth 20000 in
theorem ggX7_hedge_X7_balance : GoodIn wsX7_hedge wsX7_balance := goodIn_r _ [11, 2, 12, 13, 14, 6, 15, 16, 17, 18, 19, 20, 21, 22, 23, 24, 25, 26, 27, 28, 29, 30, 31, 32, 33, 1, 34, 35, 36, 37, 38, 43, 44, 45, 46, 47, 48, 49, 50, 51, 52, 53, 54, 55, 56, 57, 58, 59, 60, 61, 62, 63, 64, 65, 66, 67, 68, 69, 70, 71] (by decide +kernel) (by decide +kernel)
set_option maxRecDepth 20000 in
theorem gX7_hedge_X7_balance : GoodIn wsX7_hedge (wsV RX7 164 RX7 yX7_balance wsX7_balance) := goodIn_app (goodIn_of _ (by decide +kernel)) ggX7_hedge_X7_balance
set_option maxRecDepth 20000 in
theorem ggX7_hedge_X7_everybody : GoodIn wsX7_hedge wsX7_everybody := goodIn_r _ [42, 2, 43, 44, 45, 46, 47, 48, 49, 50, 51, 52, 53, 54, 55, 56, 57, 58, 59, 60, 61, 62, 63, 64, 65, 66, 67, 68, 69, 70, 71] (by decide +kernel) (by decide +kernel)
set_option maxRecDepth 20000 in
theorem gX7_hedge_X7_everybody : GoodIn wsX7_hedge (wsV RX7 160 RX7 yX7_everybody wsX7_everybody) := goodIn_app (goodIn_of _ (by decide +kernel)) ggX7_hedge_X7_everybody
theorem dX7_hedge_0 : decode cX7_hedge 0 = .ok (.iload_n 1, 1) := by decide +kernel
theorem dX7_hedge_1 : decode cX7_hedge 1 = .ok (.iconst 0, 1) := by decide +kernel
theorem dX7_hedge_2 : decode cX7_hedge 2 = .ok (.iconst 2, 1) := by decide +kernel
theorem dX7_hedge_3 : decode cX7_hedge 3 = .ok (.invokestatic 51, 3) := by decide +kernel
theorem dX7_hedge_6 : decode cX7_hedge 6 = .ok (.ifCond .ne 5, 3) := by decide +kernel
theorem dX7_hedge_9 : decode cX7_hedge 9 = .ok (.iconst (-1), 1) := by decide +kernel
theorem dX7_hedge_10 : decode cX7_hedge 10 = .ok (.ireturn, 1) := by decide +kernel
theorem dX7_hedge_11 : decode cX7_hedge 11 = .ok (.iconst 1, 1) := by decide +kernel
theorem dX7_hedge_12 : decode cX7_hedge 12 = .ok (.istore_n 2, 1) := by decide +kernel
theorem dX7_hedge_13 : decode cX7_hedge 13 = .ok (.iload_n 2, 1) := by decide +kernel
theorem dX7_hedge_14 : decode cX7_hedge 14 = .ok (.aload_n 0, 1) := by decide +kernel
theorem dX7_hedge_15 : decode cX7_hedge 15 = .ok (.getfield 19, 3) := by decide +kernel
theorem dX7_hedge_18 : decode cX7_hedge 18 = .ok (.if_icmp .ge 94, 3) := by decide +kernel
theorem dX7_hedge_21 : decode cX7_hedge 21 = .ok (.iconst 0, 1) := by decide +kernel
theorem dX7_hedge_22 : decode cX7_hedge 22 = .ok (.istore_n 3, 1) := by decide +kernel
theorem dX7_hedge_23 : decode cX7_hedge 23 = .ok (.iconst 0, 1) := by decide +kernel
theorem dX7_hedge_24 : decode cX7_hedge 24 = .ok (.istore 4, 2) := by decide +kernel
theorem dX7_hedge_26 : decode cX7_hedge 26 = .ok (.iload 4, 2) := by decide +kernel
theorem dX7_hedge_28 : decode cX7_hedge 28 = .ok (.aload_n 0, 1) := by decide +kernel
theorem dX7_hedge_29 : decode cX7_hedge 29 = .ok (.getfield 55, 3) := by decide +kernel
theorem dX7_hedge_32 : decode cX7_hedge 32 = .ok (.if_icmp .ge 39, 3) := by decide +kernel
theorem dX7_hedge_35 : decode cX7_hedge 35 = .ok (.iload_n 3, 1) := by decide +kernel
theorem dX7_hedge_36 : decode cX7_hedge 36 = .ok (.aload_n 0, 1) := by decide +kernel
theorem dX7_hedge_37 : decode cX7_hedge 37 = .ok (.getfield 29, 3) := by decide +kernel
theorem dX7_hedge_40 : decode cX7_hedge 40 = .ok (.bipush 29, 2) := by decide +kernel
theorem dX7_hedge_42 : decode cX7_hedge 42 = .ok (.iload 4, 2) := by decide +kernel
theorem dX7_hedge_44 : decode cX7_hedge 44 = .ok (.iadd, 1) := by decide +kernel
theorem dX7_hedge_45 : decode cX7_hedge 45 = .ok (.iaload, 1) := by decide +kernel
theorem dX7_hedge_46 : decode cX7_hedge 46 = .ok (.aload_n 0, 1) := by decide +kernel
theorem dX7_hedge_47 : decode cX7_hedge 47 = .ok (.getfield 19, 3) := by decide +kernel
theorem dX7_hedge_50 : decode cX7_hedge 50 = .ok (.irem, 1) := by decide +kernel
theorem dX7_hedge_51 : decode cX7_hedge 51 = .ok (.iload_n 2, 1) := by decide +kernel
theorem dX7_hedge_52 : decode cX7_hedge 52 = .ok (.if_icmp .ge 10, 3) := by decide +kernel
theorem dX7_hedge_55 : decode cX7_hedge 55 = .ok (.iconst 1, 1) := by decide +kernel
theorem dX7_hedge_56 : decode cX7_hedge 56 = .ok (.iload 4, 2) := by decide +kernel
theorem dX7_hedge_58 : decode cX7_hedge 58 = .ok (.ishl, 1) := by decide +kernel
theorem dX7_hedge_59 : decode cX7_hedge 59 = .ok (.goto 4, 3) := by decide +kernel
theorem dX7_hedge_62 : decode cX7_hedge 62 = .ok (.iconst 0, 1) := by decide +kernel
theorem dX7_hedge_63 : decode cX7_hedge 63 = .ok (.ior, 1) := by decide +kernel
theorem dX7_hedge_64 : decode cX7_hedge 64 = .ok (.istore_n 3, 1) := by decide +kernel
theorem dX7_hedge_65 : decode cX7_hedge 65 = .ok (.iinc 4 1, 3) := by decide +kernel
theorem dX7_hedge_68 : decode cX7_hedge 68 = .ok (.goto (-42), 3) := by decide +kernel
theorem dX7_hedge_71 : decode cX7_hedge 71 = .ok (.aload_n 0, 1) := by decide +kernel
theorem dX7_hedge_72 : decode cX7_hedge 72 = .ok (.aload_n 0, 1) := by decide +kernel
theorem dX7_hedge_73 : decode cX7_hedge 73 = .ok (.getfield 29, 3) := by decide +kernel
theorem dX7_hedge_76 : decode cX7_hedge 76 = .ok (.iload_n 1, 1) := by decide +kernel
theorem dX7_hedge_77 : decode cX7_hedge 77 = .ok (.iload_n 3, 1) := by decide +kernel
theorem dX7_hedge_78 : decode cX7_hedge 78 = .ok (.invokevirtual 164, 3) := by decide +kernel
theorem dX7_hedge_81 : decode cX7_hedge 81 = .ok (.ifCond .le 25, 3) := by decide +kernel
theorem dX7_hedge_84 : decode cX7_hedge 84 = .ok (.aload_n 0, 1) := by decide +kernel
theorem dX7_hedge_85 : decode cX7_hedge 85 = .ok (.aload_n 0, 1) := by decide +kernel
theorem dX7_hedge_86 : decode cX7_hedge 86 = .ok (.getfield 29, 3) := by decide +kernel
theorem dX7_hedge_89 : decode cX7_hedge 89 = .ok (.iload_n 1, 1) := by decide +kernel
theorem dX7_hedge_90 : decode cX7_hedge 90 = .ok (.aload_n 0, 1) := by decide +kernel
theorem dX7_hedge_91 : decode cX7_hedge 91 = .ok (.invokevirtual 160, 3) := by decide +kernel
theorem dX7_hedge_94 : decode cX7_hedge 94 = .ok (.iload_n 3, 1) := by decide +kernel
theorem dX7_hedge_95 : decode cX7_hedge 95 = .ok (.iconst (-1), 1) := by decide +kernel
theorem dX7_hedge_96 : decode cX7_hedge 96 = .ok (.ixor, 1) := by decide +kernel
theorem dX7_hedge_97 : decode cX7_hedge 97 = .ok (.iand, 1) := by decide +kernel
theorem dX7_hedge_98 : decode cX7_hedge 98 = .ok (.invokevirtual 164, 3) := by decide +kernel
theorem dX7_hedge_101 : decode cX7_hedge 101 = .ok (.ifCond .le 5, 3) := by decide +kernel
theorem dX7_hedge_104 : decode cX7_hedge 104 = .ok (.iload_n 2, 1) := by decide +kernel
theorem dX7_hedge_105 : decode cX7_hedge 105 = .ok (.ireturn, 1) := by decide +kernel
theorem dX7_hedge_106 : decode cX7_hedge 106 = .ok (.iinc 2 1, 3) := by decide +kernel
theorem dX7_hedge_109 : decode cX7_hedge 109 = .ok (.goto (-96), 3) := by decide +kernel
theorem dX7_hedge_112 : decode cX7_hedge 112 = .ok (.bipush (-9), 2) := by decide +kernel
theorem dX7_hedge_114 : decode cX7_hedge 114 = .ok (.ireturn, 1) := by decide +kernel
set_option maxRecDepth 20000 in
theorem ggX7_share_X7_isTree : GoodIn wsX7_share wsX7_isTree := goodIn_r _ [6, 1, 7, 8, 5, 9, 34, 35, 36, 37, 38, 39, 40, 41, 42, 43, 44, 45, 46, 47, 48, 49, 50, 51, 52, 53, 54, 55, 56, 57, 58, 59, 60, 61, 62] (by decide +kernel) (by decide +kernel)
set_option maxRecDepth 20000 in
theorem gX7_share_X7_isTree : GoodIn wsX7_share (wsV RX7 153 RX7 yX7_isTree wsX7_isTree) := goodIn_app (goodIn_of _ (by decide +kernel)) ggX7_share_X7_isTree
set_option maxRecDepth 20000 in
theorem ggX7_share_X7_weightUnder : GoodIn wsX7_share wsX7_weightUnder := goodIn_r _ [13, 14, 1, 15, 16, 17, 18, 5, 19, 20, 21, 22, 23, 24, 25, 26, 27, 28, 29, 30, 31, 32, 33, 34, 35, 36, 37, 38, 39, 40, 41, 42, 43, 44, 45, 46, 47, 48, 49, 50, 51, 52, 53, 54, 55, 56, 57, 58, 59, 60, 61, 62] (by decide +kernel) (by decide +kernel)
set_option maxRecDepth 20000 in
theorem gX7_share_X7_weightUnder : GoodIn wsX7_share (wsV RX7 187 RX7 yX7_weightUnder wsX7_weightUnder) := goodIn_app (goodIn_of _ (by decide +kernel)) ggX7_share_X7_weightUnder
theorem dX7_share_0 : decode cX7_share 0 = .ok (.aload_n 0, 1) := by decide +kernel
theorem dX7_share_1 : decode cX7_share 1 = .ok (.iload_n 1, 1) := by decide +kernel
theorem dX7_share_2 : decode cX7_share 2 = .ok (.invokevirtual 153, 3) := by decide +kernel
theorem dX7_share_5 : decode cX7_share 5 = .ok (.ifCond .ne 5, 3) := by decide +kernel
theorem dX7_share_8 : decode cX7_share 8 = .ok (.iconst (-1), 1) := by decide +kernel
theorem dX7_share_9 : decode cX7_share 9 = .ok (.ireturn, 1) := by decide +kernel
theorem dX7_share_10 : decode cX7_share 10 = .ok (.iconst 0, 1) := by decide +kernel
theorem dX7_share_11 : decode cX7_share 11 = .ok (.istore_n 2, 1) := by decide +kernel
theorem dX7_share_12 : decode cX7_share 12 = .ok (.iconst 0, 1) := by decide +kernel
theorem dX7_share_13 : decode cX7_share 13 = .ok (.istore_n 3, 1) := by decide +kernel
theorem dX7_share_14 : decode cX7_share 14 = .ok (.iload_n 3, 1) := by decide +kernel
theorem dX7_share_15 : decode cX7_share 15 = .ok (.aload_n 0, 1) := by decide +kernel
theorem dX7_share_16 : decode cX7_share 16 = .ok (.getfield 29, 3) := by decide +kernel
theorem dX7_share_19 : decode cX7_share 19 = .ok (.iconst 3, 1) := by decide +kernel
theorem dX7_share_20 : decode cX7_share 20 = .ok (.iaload, 1) := by decide +kernel
theorem dX7_share_21 : decode cX7_share 21 = .ok (.if_icmp .ge 17, 3) := by decide +kernel
theorem dX7_share_24 : decode cX7_share 24 = .ok (.iload_n 2, 1) := by decide +kernel
theorem dX7_share_25 : decode cX7_share 25 = .ok (.aload_n 0, 1) := by decide +kernel
theorem dX7_share_26 : decode cX7_share 26 = .ok (.iload_n 3, 1) := by decide +kernel
theorem dX7_share_27 : decode cX7_share 27 = .ok (.invokevirtual 187, 3) := by decide +kernel
theorem dX7_share_30 : decode cX7_share 30 = .ok (.iadd, 1) := by decide +kernel
theorem dX7_share_31 : decode cX7_share 31 = .ok (.istore_n 2, 1) := by decide +kernel
theorem dX7_share_32 : decode cX7_share 32 = .ok (.iinc 3 1, 3) := by decide +kernel
theorem dX7_share_35 : decode cX7_share 35 = .ok (.goto (-21), 3) := by decide +kernel
theorem dX7_share_38 : decode cX7_share 38 = .ok (.iload_n 2, 1) := by decide +kernel
theorem dX7_share_39 : decode cX7_share 39 = .ok (.ifCond .ne 7, 3) := by decide +kernel
theorem dX7_share_42 : decode cX7_share 42 = .ok (.iconst 0, 1) := by decide +kernel
theorem dX7_share_43 : decode cX7_share 43 = .ok (.goto 13, 3) := by decide +kernel
theorem dX7_share_46 : decode cX7_share 46 = .ok (.bipush 100, 2) := by decide +kernel
theorem dX7_share_48 : decode cX7_share 48 = .ok (.aload_n 0, 1) := by decide +kernel
theorem dX7_share_49 : decode cX7_share 49 = .ok (.iload_n 1, 1) := by decide +kernel
theorem dX7_share_50 : decode cX7_share 50 = .ok (.invokevirtual 187, 3) := by decide +kernel
theorem dX7_share_53 : decode cX7_share 53 = .ok (.imul, 1) := by decide +kernel
theorem dX7_share_54 : decode cX7_share 54 = .ok (.iload_n 2, 1) := by decide +kernel
theorem dX7_share_55 : decode cX7_share 55 = .ok (.idiv, 1) := by decide +kernel
theorem dX7_share_56 : decode cX7_share 56 = .ok (.ireturn, 1) := by decide +kernel
set_option maxRecDepth 20000 in
theorem ggX7_counted_X7_in : GoodIn wsX7_counted wsX7_in := goodIn_r _ [6] (by decide +kernel) (by decide +kernel)
set_option maxRecDepth 20000 in
theorem gX7_counted_X7_in : GoodIn wsX7_counted (va_wsS RX7 51 yX7_in wsX7_in) := goodIn_app (goodIn_of _ (by decide +kernel)) ggX7_counted_X7_in
theorem dX7_counted_0 : decode cX7_counted 0 = .ok (.iload_n 1, 1) := by decide +kernel
theorem dX7_counted_1 : decode cX7_counted 1 = .ok (.iconst 0, 1) := by decide +kernel
theorem dX7_counted_2 : decode cX7_counted 2 = .ok (.iconst 2, 1) := by decide +kernel
theorem dX7_counted_3 : decode cX7_counted 3 = .ok (.invokestatic 51, 3) := by decide +kernel
theorem dX7_counted_6 : decode cX7_counted 6 = .ok (.ifCond .eq 13, 3) := by decide +kernel
theorem dX7_counted_9 : decode cX7_counted 9 = .ok (.iload_n 2, 1) := by decide +kernel
theorem dX7_counted_10 : decode cX7_counted 10 = .ok (.iconst 0, 1) := by decide +kernel
theorem dX7_counted_11 : decode cX7_counted 11 = .ok (.bipush 28, 2) := by decide +kernel
theorem dX7_counted_13 : decode cX7_counted 13 = .ok (.invokestatic 51, 3) := by decide +kernel
theorem dX7_counted_16 : decode cX7_counted 16 = .ok (.ifCond .ne 5, 3) := by decide +kernel
theorem dX7_counted_19 : decode cX7_counted 19 = .ok (.iconst (-1), 1) := by decide +kernel
theorem dX7_counted_20 : decode cX7_counted 20 = .ok (.ireturn, 1) := by decide +kernel
theorem dX7_counted_21 : decode cX7_counted 21 = .ok (.aload_n 0, 1) := by decide +kernel
theorem dX7_counted_22 : decode cX7_counted 22 = .ok (.getfield 122, 3) := by decide +kernel
theorem dX7_counted_25 : decode cX7_counted 25 = .ok (.iconst 5, 1) := by decide +kernel
theorem dX7_counted_26 : decode cX7_counted 26 = .ok (.if_icmp .ne 6, 3) := by decide +kernel
theorem dX7_counted_29 : decode cX7_counted 29 = .ok (.bipush (-3), 2) := by decide +kernel
theorem dX7_counted_31 : decode cX7_counted 31 = .ok (.ireturn, 1) := by decide +kernel
theorem dX7_counted_32 : decode cX7_counted 32 = .ok (.aload_n 0, 1) := by decide +kernel
theorem dX7_counted_33 : decode cX7_counted 33 = .ok (.getfield 45, 3) := by decide +kernel
theorem dX7_counted_36 : decode cX7_counted 36 = .ok (.iconst 2, 1) := by decide +kernel
theorem dX7_counted_37 : decode cX7_counted 37 = .ok (.aload_n 0, 1) := by decide +kernel
theorem dX7_counted_38 : decode cX7_counted 38 = .ok (.getfield 122, 3) := by decide +kernel
theorem dX7_counted_41 : decode cX7_counted 41 = .ok (.imul, 1) := by decide +kernel
theorem dX7_counted_42 : decode cX7_counted 42 = .ok (.iload_n 1, 1) := by decide +kernel
theorem dX7_counted_43 : decode cX7_counted 43 = .ok (.iastore, 1) := by decide +kernel
theorem dX7_counted_44 : decode cX7_counted 44 = .ok (.aload_n 0, 1) := by decide +kernel
theorem dX7_counted_45 : decode cX7_counted 45 = .ok (.getfield 45, 3) := by decide +kernel
theorem dX7_counted_48 : decode cX7_counted 48 = .ok (.iconst 2, 1) := by decide +kernel
theorem dX7_counted_49 : decode cX7_counted 49 = .ok (.aload_n 0, 1) := by decide +kernel
theorem dX7_counted_50 : decode cX7_counted 50 = .ok (.getfield 122, 3) := by decide +kernel
theorem dX7_counted_53 : decode cX7_counted 53 = .ok (.imul, 1) := by decide +kernel
theorem dX7_counted_54 : decode cX7_counted 54 = .ok (.iconst 1, 1) := by decide +kernel
theorem dX7_counted_55 : decode cX7_counted 55 = .ok (.iadd, 1) := by decide +kernel
theorem dX7_counted_56 : decode cX7_counted 56 = .ok (.iload_n 2, 1) := by decide +kernel
theorem dX7_counted_57 : decode cX7_counted 57 = .ok (.iastore, 1) := by decide +kernel
theorem dX7_counted_58 : decode cX7_counted 58 = .ok (.aload_n 0, 1) := by decide +kernel
theorem dX7_counted_59 : decode cX7_counted 59 = .ok (.dup, 1) := by decide +kernel
theorem dX7_counted_60 : decode cX7_counted 60 = .ok (.getfield 122, 3) := by decide +kernel
theorem dX7_counted_63 : decode cX7_counted 63 = .ok (.iconst 1, 1) := by decide +kernel
theorem dX7_counted_64 : decode cX7_counted 64 = .ok (.iadd, 1) := by decide +kernel
theorem dX7_counted_65 : decode cX7_counted 65 = .ok (.putfield 122, 3) := by decide +kernel
theorem dX7_counted_68 : decode cX7_counted 68 = .ok (.aload_n 0, 1) := by decide +kernel
theorem dX7_counted_69 : decode cX7_counted 69 = .ok (.getfield 122, 3) := by decide +kernel
theorem dX7_counted_72 : decode cX7_counted 72 = .ok (.ireturn, 1) := by decide +kernel
theorem dX7_forget_0 : decode cX7_forget 0 = .ok (.aload_n 0, 1) := by decide +kernel
theorem dX7_forget_1 : decode cX7_forget 1 = .ok (.getfield 122, 3) := by decide +kernel
theorem dX7_forget_4 : decode cX7_forget 4 = .ok (.istore_n 1, 1) := by decide +kernel
theorem dX7_forget_5 : decode cX7_forget 5 = .ok (.aload_n 0, 1) := by decide +kernel
theorem dX7_forget_6 : decode cX7_forget 6 = .ok (.iconst 0, 1) := by decide +kernel
theorem dX7_forget_7 : decode cX7_forget 7 = .ok (.putfield 122, 3) := by decide +kernel
theorem dX7_forget_10 : decode cX7_forget 10 = .ok (.iload_n 1, 1) := by decide +kernel
theorem dX7_forget_11 : decode cX7_forget 11 = .ok (.ireturn, 1) := by decide +kernel
set_option maxRecDepth 20000 in
theorem ggX7_mayBe_X7_copy : GoodIn wsX7_mayBe wsX7_copy := goodIn_r _ [8] (by decide +kernel) (by decide +kernel)
set_option maxRecDepth 20000 in
theorem gX7_mayBe_X7_copy : GoodIn wsX7_mayBe (va_wsS RX7 115 yX7_copy wsX7_copy) := goodIn_app (goodIn_of _ (by decide +kernel)) ggX7_mayBe_X7_copy
set_option maxRecDepth 20000 in
theorem ggX7_mayBe_X7_forOf : GoodIn wsX7_mayBe wsX7_forOf := goodIn_r _ [12, 13, 14, 15, 16, 17, 7, 18, 19, 20, 21, 22, 23, 24, 25, 26, 27, 28, 29, 30, 31, 32, 33, 34, 35, 36, 37, 38, 39, 40, 41, 42, 43, 44, 45, 46, 47, 48, 49, 50, 51, 52, 53, 54, 55, 56, 57, 58, 59, 60, 61, 62, 63, 64, 65, 66, 67, 68, 69, 70] (by decide +kernel) (by decide +kernel)
set_option maxRecDepth 20000 in
theorem gX7_mayBe_X7_forOf : GoodIn wsX7_mayBe (wsV RX7 167 RX7 yX7_forOf wsX7_forOf) := goodIn_app (goodIn_of _ (by decide +kernel)) ggX7_mayBe_X7_forOf
theorem dX7_mayBe_0 : decode cX7_mayBe 0 = .ok (.iconst 0, 1) := by decide +kernel
theorem dX7_mayBe_1 : decode cX7_mayBe 1 = .ok (.istore_n 1, 1) := by decide +kernel
theorem dX7_mayBe_2 : decode cX7_mayBe 2 = .ok (.iconst 1, 1) := by decide +kernel
theorem dX7_mayBe_3 : decode cX7_mayBe 3 = .ok (.istore_n 2, 1) := by decide +kernel
theorem dX7_mayBe_4 : decode cX7_mayBe 4 = .ok (.iload_n 2, 1) := by decide +kernel
theorem dX7_mayBe_5 : decode cX7_mayBe 5 = .ok (.bipush 9, 2) := by decide +kernel
theorem dX7_mayBe_7 : decode cX7_mayBe 7 = .ok (.if_icmp .gt 106, 3) := by decide +kernel
theorem dX7_mayBe_10 : decode cX7_mayBe 10 = .ok (.aload_n 0, 1) := by decide +kernel
theorem dX7_mayBe_11 : decode cX7_mayBe 11 = .ok (.getfield 29, 3) := by decide +kernel
theorem dX7_mayBe_14 : decode cX7_mayBe 14 = .ok (.iconst 0, 1) := by decide +kernel
theorem dX7_mayBe_15 : decode cX7_mayBe 15 = .ok (.aload_n 0, 1) := by decide +kernel
theorem dX7_mayBe_16 : decode cX7_mayBe 16 = .ok (.getfield 32, 3) := by decide +kernel
theorem dX7_mayBe_19 : decode cX7_mayBe 19 = .ok (.iconst 0, 1) := by decide +kernel
theorem dX7_mayBe_20 : decode cX7_mayBe 20 = .ok (.invokestatic 115, 3) := by decide +kernel
theorem dX7_mayBe_23 : decode cX7_mayBe 23 = .ok (.aload_n 0, 1) := by decide +kernel
theorem dX7_mayBe_24 : decode cX7_mayBe 24 = .ok (.getfield 32, 3) := by decide +kernel
theorem dX7_mayBe_27 : decode cX7_mayBe 27 = .ok (.iconst 1, 1) := by decide +kernel
theorem dX7_mayBe_28 : decode cX7_mayBe 28 = .ok (.iload_n 2, 1) := by decide +kernel
theorem dX7_mayBe_29 : decode cX7_mayBe 29 = .ok (.iastore, 1) := by decide +kernel
theorem dX7_mayBe_30 : decode cX7_mayBe 30 = .ok (.iconst 1, 1) := by decide +kernel
theorem dX7_mayBe_31 : decode cX7_mayBe 31 = .ok (.istore_n 3, 1) := by decide +kernel
theorem dX7_mayBe_32 : decode cX7_mayBe 32 = .ok (.iconst 0, 1) := by decide +kernel
theorem dX7_mayBe_33 : decode cX7_mayBe 33 = .ok (.istore 4, 2) := by decide +kernel
theorem dX7_mayBe_35 : decode cX7_mayBe 35 = .ok (.iload 4, 2) := by decide +kernel
theorem dX7_mayBe_37 : decode cX7_mayBe 37 = .ok (.aload_n 0, 1) := by decide +kernel
theorem dX7_mayBe_38 : decode cX7_mayBe 38 = .ok (.getfield 122, 3) := by decide +kernel
theorem dX7_mayBe_41 : decode cX7_mayBe 41 = .ok (.if_icmp .ge 50, 3) := by decide +kernel
theorem dX7_mayBe_44 : decode cX7_mayBe 44 = .ok (.iload_n 3, 1) := by decide +kernel
theorem dX7_mayBe_45 : decode cX7_mayBe 45 = .ok (.ifCond .eq 38, 3) := by decide +kernel
theorem dX7_mayBe_48 : decode cX7_mayBe 48 = .ok (.aload_n 0, 1) := by decide +kernel
theorem dX7_mayBe_49 : decode cX7_mayBe 49 = .ok (.aload_n 0, 1) := by decide +kernel
theorem dX7_mayBe_50 : decode cX7_mayBe 50 = .ok (.getfield 32, 3) := by decide +kernel
theorem dX7_mayBe_53 : decode cX7_mayBe 53 = .ok (.aload_n 0, 1) := by decide +kernel
theorem dX7_mayBe_54 : decode cX7_mayBe 54 = .ok (.getfield 45, 3) := by decide +kernel
theorem dX7_mayBe_57 : decode cX7_mayBe 57 = .ok (.iconst 2, 1) := by decide +kernel
theorem dX7_mayBe_58 : decode cX7_mayBe 58 = .ok (.iload 4, 2) := by decide +kernel
theorem dX7_mayBe_60 : decode cX7_mayBe 60 = .ok (.imul, 1) := by decide +kernel
theorem dX7_mayBe_61 : decode cX7_mayBe 61 = .ok (.iaload, 1) := by decide +kernel
theorem dX7_mayBe_62 : decode cX7_mayBe 62 = .ok (.invokevirtual 167, 3) := by decide +kernel
theorem dX7_mayBe_65 : decode cX7_mayBe 65 = .ok (.aload_n 0, 1) := by decide +kernel
theorem dX7_mayBe_66 : decode cX7_mayBe 66 = .ok (.getfield 45, 3) := by decide +kernel
theorem dX7_mayBe_69 : decode cX7_mayBe 69 = .ok (.iconst 2, 1) := by decide +kernel
theorem dX7_mayBe_70 : decode cX7_mayBe 70 = .ok (.iload 4, 2) := by decide +kernel
theorem dX7_mayBe_72 : decode cX7_mayBe 72 = .ok (.imul, 1) := by decide +kernel
theorem dX7_mayBe_73 : decode cX7_mayBe 73 = .ok (.iconst 1, 1) := by decide +kernel
theorem dX7_mayBe_74 : decode cX7_mayBe 74 = .ok (.iadd, 1) := by decide +kernel
theorem dX7_mayBe_75 : decode cX7_mayBe 75 = .ok (.iaload, 1) := by decide +kernel
theorem dX7_mayBe_76 : decode cX7_mayBe 76 = .ok (.if_icmp .ne 7, 3) := by decide +kernel
theorem dX7_mayBe_79 : decode cX7_mayBe 79 = .ok (.iconst 1, 1) := by decide +kernel
theorem dX7_mayBe_80 : decode cX7_mayBe 80 = .ok (.goto 4, 3) := by decide +kernel
theorem dX7_mayBe_83 : decode cX7_mayBe 83 = .ok (.iconst 0, 1) := by decide +kernel
theorem dX7_mayBe_84 : decode cX7_mayBe 84 = .ok (.istore_n 3, 1) := by decide +kernel
theorem dX7_mayBe_85 : decode cX7_mayBe 85 = .ok (.iinc 4 1, 3) := by decide +kernel
theorem dX7_mayBe_88 : decode cX7_mayBe 88 = .ok (.goto (-53), 3) := by decide +kernel
theorem dX7_mayBe_91 : decode cX7_mayBe 91 = .ok (.iload_n 1, 1) := by decide +kernel
theorem dX7_mayBe_92 : decode cX7_mayBe 92 = .ok (.iload_n 3, 1) := by decide +kernel
theorem dX7_mayBe_93 : decode cX7_mayBe 93 = .ok (.ifCond .eq 11, 3) := by decide +kernel
theorem dX7_mayBe_96 : decode cX7_mayBe 96 = .ok (.iconst 1, 1) := by decide +kernel
theorem dX7_mayBe_97 : decode cX7_mayBe 97 = .ok (.iload_n 2, 1) := by decide +kernel
theorem dX7_mayBe_98 : decode cX7_mayBe 98 = .ok (.iconst 1, 1) := by decide +kernel
theorem dX7_mayBe_99 : decode cX7_mayBe 99 = .ok (.isub, 1) := by decide +kernel
theorem dX7_mayBe_100 : decode cX7_mayBe 100 = .ok (.ishl, 1) := by decide +kernel
theorem dX7_mayBe_101 : decode cX7_mayBe 101 = .ok (.goto 4, 3) := by decide +kernel
theorem dX7_mayBe_104 : decode cX7_mayBe 104 = .ok (.iconst 0, 1) := by decide +kernel
theorem dX7_mayBe_105 : decode cX7_mayBe 105 = .ok (.ior, 1) := by decide +kernel
theorem dX7_mayBe_106 : decode cX7_mayBe 106 = .ok (.istore_n 1, 1) := by decide +kernel
theorem dX7_mayBe_107 : decode cX7_mayBe 107 = .ok (.iinc 2 1, 3) := by decide +kernel
theorem dX7_mayBe_110 : decode cX7_mayBe 110 = .ok (.goto (-106), 3) := by decide +kernel
theorem dX7_mayBe_113 : decode cX7_mayBe 113 = .ok (.iload_n 1, 1) := by decide +kernel
theorem dX7_mayBe_114 : decode cX7_mayBe 114 = .ok (.ireturn, 1) := by decide +kernel
set_option maxRecDepth 20000 in
theorem ggX7_odds_X7_in : GoodIn wsX7_odds wsX7_in := goodIn_r _ [6] (by decide +kernel) (by decide +kernel)
set_option maxRecDepth 20000 in
theorem gX7_odds_X7_in : GoodIn wsX7_odds (va_wsS RX7 51 yX7_in wsX7_in) := goodIn_app (goodIn_of _ (by decide +kernel)) ggX7_odds_X7_in
set_option maxRecDepth 20000 in
theorem ggX7_odds_X7_everybody : GoodIn wsX7_odds wsX7_everybody := goodIn_r _ [10, 1, 43, 44, 45, 46, 47, 48, 49, 50, 51, 52, 53, 54, 55, 56, 57, 58, 59, 60, 61, 62, 63, 64, 65, 66, 67, 68, 69, 70, 71] (by decide +kernel) (by decide +kernel)
set_option maxRecDepth 20000 in
theorem gX7_odds_X7_everybody : GoodIn wsX7_odds (wsV RX7 160 RX7 yX7_everybody wsX7_everybody) := goodIn_app (goodIn_of _ (by decide +kernel)) ggX7_odds_X7_everybody
set_option maxRecDepth 20000 in
theorem ggX7_odds_X7_has : GoodIn wsX7_odds wsX7_has := goodIn_r _ [13] (by decide +kernel) (by decide +kernel)
set_option maxRecDepth 20000 in
theorem gX7_odds_X7_has : GoodIn wsX7_odds (va_wsS RX7 133 yX7_has wsX7_has) := goodIn_app (goodIn_of _ (by decide +kernel)) ggX7_odds_X7_has
set_option maxRecDepth 20000 in
theorem ggX7_odds_X7_balance : GoodIn wsX7_odds wsX7_balance := goodIn_r _ [17, 1, 18, 11, 12, 5, 13, 19, 20, 21, 22, 23, 24, 25, 26, 27, 28, 29, 30, 31, 32, 33, 34, 35, 36, 37, 38, 39, 40, 41, 42, 43, 44, 45, 46, 47, 48, 49, 50, 51, 52, 53, 54, 55, 56, 57, 58, 59, 60, 61, 62, 63, 64, 65, 66, 67, 68, 69, 70, 71] (by decide +kernel) (by decide +kernel)
set_option maxRecDepth 20000 in
theorem gX7_odds_X7_balance : GoodIn wsX7_odds (wsV RX7 164 RX7 yX7_balance wsX7_balance) := goodIn_app (goodIn_of _ (by decide +kernel)) ggX7_odds_X7_balance
theorem dX7_odds_0 : decode cX7_odds 0 = .ok (.iload_n 1, 1) := by decide +kernel
theorem dX7_odds_1 : decode cX7_odds 1 = .ok (.iconst 0, 1) := by decide +kernel
theorem dX7_odds_2 : decode cX7_odds 2 = .ok (.iconst 2, 1) := by decide +kernel
theorem dX7_odds_3 : decode cX7_odds 3 = .ok (.invokestatic 51, 3) := by decide +kernel
theorem dX7_odds_6 : decode cX7_odds 6 = .ok (.ifCond .eq 22, 3) := by decide +kernel
theorem dX7_odds_9 : decode cX7_odds 9 = .ok (.iload_n 2, 1) := by decide +kernel
theorem dX7_odds_10 : decode cX7_odds 10 = .ok (.iconst 0, 1) := by decide +kernel
theorem dX7_odds_11 : decode cX7_odds 11 = .ok (.bipush 10, 2) := by decide +kernel
theorem dX7_odds_13 : decode cX7_odds 13 = .ok (.invokestatic 51, 3) := by decide +kernel
theorem dX7_odds_16 : decode cX7_odds 16 = .ok (.ifCond .eq 12, 3) := by decide +kernel
theorem dX7_odds_19 : decode cX7_odds 19 = .ok (.iload_n 3, 1) := by decide +kernel
theorem dX7_odds_20 : decode cX7_odds 20 = .ok (.iconst 0, 1) := by decide +kernel
theorem dX7_odds_21 : decode cX7_odds 21 = .ok (.iconst 1, 1) := by decide +kernel
theorem dX7_odds_22 : decode cX7_odds 22 = .ok (.invokestatic 51, 3) := by decide +kernel
theorem dX7_odds_25 : decode cX7_odds 25 = .ok (.ifCond .ne 5, 3) := by decide +kernel
theorem dX7_odds_28 : decode cX7_odds 28 = .ok (.iconst (-1), 1) := by decide +kernel
theorem dX7_odds_29 : decode cX7_odds 29 = .ok (.ireturn, 1) := by decide +kernel
theorem dX7_odds_30 : decode cX7_odds 30 = .ok (.iconst 0, 1) := by decide +kernel
theorem dX7_odds_31 : decode cX7_odds 31 = .ok (.istore 4, 2) := by decide +kernel
theorem dX7_odds_33 : decode cX7_odds 33 = .ok (.iconst 1, 1) := by decide +kernel
theorem dX7_odds_34 : decode cX7_odds 34 = .ok (.istore 5, 2) := by decide +kernel
theorem dX7_odds_36 : decode cX7_odds 36 = .ok (.iconst 0, 1) := by decide +kernel
theorem dX7_odds_37 : decode cX7_odds 37 = .ok (.istore 6, 2) := by decide +kernel
theorem dX7_odds_39 : decode cX7_odds 39 = .ok (.iload 6, 2) := by decide +kernel
theorem dX7_odds_41 : decode cX7_odds 41 = .ok (.aload_n 0, 1) := by decide +kernel
theorem dX7_odds_42 : decode cX7_odds 42 = .ok (.getfield 55, 3) := by decide +kernel
theorem dX7_odds_45 : decode cX7_odds 45 = .ok (.if_icmp .ge 16, 3) := by decide +kernel
theorem dX7_odds_48 : decode cX7_odds 48 = .ok (.iload 5, 2) := by decide +kernel
theorem dX7_odds_50 : decode cX7_odds 50 = .ok (.bipush 10, 2) := by decide +kernel
theorem dX7_odds_52 : decode cX7_odds 52 = .ok (.imul, 1) := by decide +kernel
theorem dX7_odds_53 : decode cX7_odds 53 = .ok (.istore 5, 2) := by decide +kernel
theorem dX7_odds_55 : decode cX7_odds 55 = .ok (.iinc 6 1, 3) := by decide +kernel
theorem dX7_odds_58 : decode cX7_odds 58 = .ok (.goto (-19), 3) := by decide +kernel
theorem dX7_odds_61 : decode cX7_odds 61 = .ok (.iconst 0, 1) := by decide +kernel
theorem dX7_odds_62 : decode cX7_odds 62 = .ok (.istore 6, 2) := by decide +kernel
theorem dX7_odds_64 : decode cX7_odds 64 = .ok (.iload 6, 2) := by decide +kernel
theorem dX7_odds_66 : decode cX7_odds 66 = .ok (.aload_n 0, 1) := by decide +kernel
theorem dX7_odds_67 : decode cX7_odds 67 = .ok (.invokevirtual 160, 3) := by decide +kernel
theorem dX7_odds_70 : decode cX7_odds 70 = .ok (.if_icmp .gt 78, 3) := by decide +kernel
theorem dX7_odds_73 : decode cX7_odds 73 = .ok (.iconst 1, 1) := by decide +kernel
theorem dX7_odds_74 : decode cX7_odds 74 = .ok (.istore 7, 2) := by decide +kernel
theorem dX7_odds_76 : decode cX7_odds 76 = .ok (.iconst 0, 1) := by decide +kernel
theorem dX7_odds_77 : decode cX7_odds 77 = .ok (.istore 8, 2) := by decide +kernel
theorem dX7_odds_79 : decode cX7_odds 79 = .ok (.iload 8, 2) := by decide +kernel
theorem dX7_odds_81 : decode cX7_odds 81 = .ok (.aload_n 0, 1) := by decide +kernel
theorem dX7_odds_82 : decode cX7_odds 82 = .ok (.getfield 55, 3) := by decide +kernel
theorem dX7_odds_85 : decode cX7_odds 85 = .ok (.if_icmp .ge 32, 3) := by decide +kernel
theorem dX7_odds_88 : decode cX7_odds 88 = .ok (.iload 7, 2) := by decide +kernel
theorem dX7_odds_90 : decode cX7_odds 90 = .ok (.iload 6, 2) := by decide +kernel
theorem dX7_odds_92 : decode cX7_odds 92 = .ok (.iload 8, 2) := by decide +kernel
theorem dX7_odds_94 : decode cX7_odds 94 = .ok (.invokestatic 133, 3) := by decide +kernel
theorem dX7_odds_97 : decode cX7_odds 97 = .ok (.ifCond .eq 7, 3) := by decide +kernel
theorem dX7_odds_100 : decode cX7_odds 100 = .ok (.iload_n 2, 1) := by decide +kernel
theorem dX7_odds_101 : decode cX7_odds 101 = .ok (.goto 7, 3) := by decide +kernel
theorem dX7_odds_104 : decode cX7_odds 104 = .ok (.bipush 10, 2) := by decide +kernel
theorem dX7_odds_106 : decode cX7_odds 106 = .ok (.iload_n 2, 1) := by decide +kernel
theorem dX7_odds_107 : decode cX7_odds 107 = .ok (.isub, 1) := by decide +kernel
theorem dX7_odds_108 : decode cX7_odds 108 = .ok (.imul, 1) := by decide +kernel
theorem dX7_odds_109 : decode cX7_odds 109 = .ok (.istore 7, 2) := by decide +kernel
theorem dX7_odds_111 : decode cX7_odds 111 = .ok (.iinc 8 1, 3) := by decide +kernel
theorem dX7_odds_114 : decode cX7_odds 114 = .ok (.goto (-35), 3) := by decide +kernel
theorem dX7_odds_117 : decode cX7_odds 117 = .ok (.iload 4, 2) := by decide +kernel
theorem dX7_odds_119 : decode cX7_odds 119 = .ok (.aload_n 0, 1) := by decide +kernel
theorem dX7_odds_120 : decode cX7_odds 120 = .ok (.aload_n 0, 1) := by decide +kernel
theorem dX7_odds_121 : decode cX7_odds 121 = .ok (.getfield 29, 3) := by decide +kernel
theorem dX7_odds_124 : decode cX7_odds 124 = .ok (.iload_n 1, 1) := by decide +kernel
theorem dX7_odds_125 : decode cX7_odds 125 = .ok (.iload 6, 2) := by decide +kernel
theorem dX7_odds_127 : decode cX7_odds 127 = .ok (.invokevirtual 164, 3) := by decide +kernel
theorem dX7_odds_130 : decode cX7_odds 130 = .ok (.ifCond .le 8, 3) := by decide +kernel
theorem dX7_odds_133 : decode cX7_odds 133 = .ok (.iload 7, 2) := by decide +kernel
theorem dX7_odds_135 : decode cX7_odds 135 = .ok (.goto 4, 3) := by decide +kernel
theorem dX7_odds_138 : decode cX7_odds 138 = .ok (.iconst 0, 1) := by decide +kernel
theorem dX7_odds_139 : decode cX7_odds 139 = .ok (.iadd, 1) := by decide +kernel
theorem dX7_odds_140 : decode cX7_odds 140 = .ok (.istore 4, 2) := by decide +kernel
theorem dX7_odds_142 : decode cX7_odds 142 = .ok (.iinc 6 1, 3) := by decide +kernel
theorem dX7_odds_145 : decode cX7_odds 145 = .ok (.goto (-81), 3) := by decide +kernel
theorem dX7_odds_148 : decode cX7_odds 148 = .ok (.iload 4, 2) := by decide +kernel
theorem dX7_odds_150 : decode cX7_odds 150 = .ok (.istore 6, 2) := by decide +kernel
theorem dX7_odds_152 : decode cX7_odds 152 = .ok (.iload 5, 2) := by decide +kernel
theorem dX7_odds_154 : decode cX7_odds 154 = .ok (.istore 7, 2) := by decide +kernel
theorem dX7_odds_156 : decode cX7_odds 156 = .ok (.iload 7, 2) := by decide +kernel
theorem dX7_odds_158 : decode cX7_odds 158 = .ok (.ifCond .le 21, 3) := by decide +kernel
theorem dX7_odds_161 : decode cX7_odds 161 = .ok (.iload 6, 2) := by decide +kernel
theorem dX7_odds_163 : decode cX7_odds 163 = .ok (.iload 7, 2) := by decide +kernel
theorem dX7_odds_165 : decode cX7_odds 165 = .ok (.irem, 1) := by decide +kernel
theorem dX7_odds_166 : decode cX7_odds 166 = .ok (.istore 8, 2) := by decide +kernel
theorem dX7_odds_168 : decode cX7_odds 168 = .ok (.iload 7, 2) := by decide +kernel
theorem dX7_odds_170 : decode cX7_odds 170 = .ok (.istore 6, 2) := by decide +kernel
theorem dX7_odds_172 : decode cX7_odds 172 = .ok (.iload 8, 2) := by decide +kernel
theorem dX7_odds_174 : decode cX7_odds 174 = .ok (.istore 7, 2) := by decide +kernel
theorem dX7_odds_176 : decode cX7_odds 176 = .ok (.goto (-20), 3) := by decide +kernel
theorem dX7_odds_179 : decode cX7_odds 179 = .ok (.iload_n 3, 1) := by decide +kernel
theorem dX7_odds_180 : decode cX7_odds 180 = .ok (.ifCond .ne 8, 3) := by decide +kernel
theorem dX7_odds_183 : decode cX7_odds 183 = .ok (.iload 4, 2) := by decide +kernel
theorem dX7_odds_185 : decode cX7_odds 185 = .ok (.goto 5, 3) := by decide +kernel
theorem dX7_odds_188 : decode cX7_odds 188 = .ok (.iload 5, 2) := by decide +kernel
theorem dX7_odds_190 : decode cX7_odds 190 = .ok (.iload 6, 2) := by decide +kernel
theorem dX7_odds_192 : decode cX7_odds 192 = .ok (.idiv, 1) := by decide +kernel
theorem dX7_odds_193 : decode cX7_odds 193 = .ok (.ireturn, 1) := by decide +kernel
set_option maxRecDepth 20000 in
theorem ggX7_sway_X7_in : GoodIn wsX7_sway wsX7_in := goodIn_r _ [6] (by decide +kernel) (by decide +kernel)
set_option maxRecDepth 20000 in
theorem gX7_sway_X7_in : GoodIn wsX7_sway (va_wsS RX7 51 yX7_in wsX7_in) := goodIn_app (goodIn_of _ (by decide +kernel)) ggX7_sway_X7_in
set_option maxRecDepth 20000 in
theorem ggX7_sway_X7_everybody : GoodIn wsX7_sway wsX7_everybody := goodIn_r _ [10, 2, 43, 44, 45, 46, 47, 48, 49, 50, 51, 52, 53, 54, 55, 56, 57, 58, 59, 60, 61, 62, 63, 64, 65, 66, 67, 68, 69, 70, 71] (by decide +kernel) (by decide +kernel)
set_option maxRecDepth 20000 in
theorem gX7_sway_X7_everybody : GoodIn wsX7_sway (wsV RX7 160 RX7 yX7_everybody wsX7_everybody) := goodIn_app (goodIn_of _ (by decide +kernel)) ggX7_sway_X7_everybody
set_option maxRecDepth 20000 in
theorem ggX7_sway_X7_balance : GoodIn wsX7_sway wsX7_balance := goodIn_r _ [14, 2, 15, 16, 17, 5, 18, 19, 20, 21, 22, 23, 24, 25, 26, 27, 28, 29, 30, 31, 32, 33, 34, 35, 36, 37, 38, 39, 40, 41, 42, 43, 44, 45, 46, 47, 48, 49, 50, 51, 52, 53, 54, 55, 56, 57, 58, 59, 60, 61, 62, 63, 64, 65, 66, 67, 68, 69, 70, 71] (by decide +kernel) (by decide +kernel)
set_option maxRecDepth 20000 in
theorem gX7_sway_X7_balance : GoodIn wsX7_sway (wsV RX7 164 RX7 yX7_balance wsX7_balance) := goodIn_app (goodIn_of _ (by decide +kernel)) ggX7_sway_X7_balance
theorem dX7_sway_0 : decode cX7_sway 0 = .ok (.iload_n 1, 1) := by decide +kernel
theorem dX7_sway_1 : decode cX7_sway 1 = .ok (.iconst 0, 1) := by decide +kernel
theorem dX7_sway_2 : decode cX7_sway 2 = .ok (.iconst 2, 1) := by decide +kernel
theorem dX7_sway_3 : decode cX7_sway 3 = .ok (.invokestatic 51, 3) := by decide +kernel
theorem dX7_sway_6 : decode cX7_sway 6 = .ok (.ifCond .ne 5, 3) := by decide +kernel
theorem dX7_sway_9 : decode cX7_sway 9 = .ok (.iconst (-1), 1) := by decide +kernel
theorem dX7_sway_10 : decode cX7_sway 10 = .ok (.ireturn, 1) := by decide +kernel
theorem dX7_sway_11 : decode cX7_sway 11 = .ok (.aload_n 0, 1) := by decide +kernel
theorem dX7_sway_12 : decode cX7_sway 12 = .ok (.aload_n 0, 1) := by decide +kernel
theorem dX7_sway_13 : decode cX7_sway 13 = .ok (.getfield 29, 3) := by decide +kernel
theorem dX7_sway_16 : decode cX7_sway 16 = .ok (.iload_n 1, 1) := by decide +kernel
theorem dX7_sway_17 : decode cX7_sway 17 = .ok (.aload_n 0, 1) := by decide +kernel
theorem dX7_sway_18 : decode cX7_sway 18 = .ok (.invokevirtual 160, 3) := by decide +kernel
theorem dX7_sway_21 : decode cX7_sway 21 = .ok (.invokevirtual 164, 3) := by decide +kernel
theorem dX7_sway_24 : decode cX7_sway 24 = .ok (.ifCond .le 7, 3) := by decide +kernel
theorem dX7_sway_27 : decode cX7_sway 27 = .ok (.iconst 1, 1) := by decide +kernel
theorem dX7_sway_28 : decode cX7_sway 28 = .ok (.goto 4, 3) := by decide +kernel
theorem dX7_sway_31 : decode cX7_sway 31 = .ok (.iconst 0, 1) := by decide +kernel
theorem dX7_sway_32 : decode cX7_sway 32 = .ok (.istore_n 2, 1) := by decide +kernel
theorem dX7_sway_33 : decode cX7_sway 33 = .ok (.iconst 0, 1) := by decide +kernel
theorem dX7_sway_34 : decode cX7_sway 34 = .ok (.istore_n 3, 1) := by decide +kernel
theorem dX7_sway_35 : decode cX7_sway 35 = .ok (.iconst 0, 1) := by decide +kernel
theorem dX7_sway_36 : decode cX7_sway 36 = .ok (.istore 4, 2) := by decide +kernel
theorem dX7_sway_38 : decode cX7_sway 38 = .ok (.iload 4, 2) := by decide +kernel
theorem dX7_sway_40 : decode cX7_sway 40 = .ok (.aload_n 0, 1) := by decide +kernel
theorem dX7_sway_41 : decode cX7_sway 41 = .ok (.getfield 55, 3) := by decide +kernel
theorem dX7_sway_44 : decode cX7_sway 44 = .ok (.if_icmp .ge 52, 3) := by decide +kernel
theorem dX7_sway_47 : decode cX7_sway 47 = .ok (.iload_n 3, 1) := by decide +kernel
theorem dX7_sway_48 : decode cX7_sway 48 = .ok (.aload_n 0, 1) := by decide +kernel
theorem dX7_sway_49 : decode cX7_sway 49 = .ok (.aload_n 0, 1) := by decide +kernel
theorem dX7_sway_50 : decode cX7_sway 50 = .ok (.getfield 29, 3) := by decide +kernel
theorem dX7_sway_53 : decode cX7_sway 53 = .ok (.iload_n 1, 1) := by decide +kernel
theorem dX7_sway_54 : decode cX7_sway 54 = .ok (.aload_n 0, 1) := by decide +kernel
theorem dX7_sway_55 : decode cX7_sway 55 = .ok (.invokevirtual 160, 3) := by decide +kernel
theorem dX7_sway_58 : decode cX7_sway 58 = .ok (.iconst 1, 1) := by decide +kernel
theorem dX7_sway_59 : decode cX7_sway 59 = .ok (.iload 4, 2) := by decide +kernel
theorem dX7_sway_61 : decode cX7_sway 61 = .ok (.ishl, 1) := by decide +kernel
theorem dX7_sway_62 : decode cX7_sway 62 = .ok (.iconst (-1), 1) := by decide +kernel
theorem dX7_sway_63 : decode cX7_sway 63 = .ok (.ixor, 1) := by decide +kernel
theorem dX7_sway_64 : decode cX7_sway 64 = .ok (.iand, 1) := by decide +kernel
theorem dX7_sway_65 : decode cX7_sway 65 = .ok (.invokevirtual 164, 3) := by decide +kernel
theorem dX7_sway_68 : decode cX7_sway 68 = .ok (.ifCond .le 7, 3) := by decide +kernel
theorem dX7_sway_71 : decode cX7_sway 71 = .ok (.iconst 1, 1) := by decide +kernel
theorem dX7_sway_72 : decode cX7_sway 72 = .ok (.goto 4, 3) := by decide +kernel
theorem dX7_sway_75 : decode cX7_sway 75 = .ok (.iconst 0, 1) := by decide +kernel
theorem dX7_sway_76 : decode cX7_sway 76 = .ok (.iload_n 2, 1) := by decide +kernel
theorem dX7_sway_77 : decode cX7_sway 77 = .ok (.if_icmp .eq 10, 3) := by decide +kernel
theorem dX7_sway_80 : decode cX7_sway 80 = .ok (.iconst 1, 1) := by decide +kernel
theorem dX7_sway_81 : decode cX7_sway 81 = .ok (.iload 4, 2) := by decide +kernel
theorem dX7_sway_83 : decode cX7_sway 83 = .ok (.ishl, 1) := by decide +kernel
theorem dX7_sway_84 : decode cX7_sway 84 = .ok (.goto 4, 3) := by decide +kernel
theorem dX7_sway_87 : decode cX7_sway 87 = .ok (.iconst 0, 1) := by decide +kernel
theorem dX7_sway_88 : decode cX7_sway 88 = .ok (.ior, 1) := by decide +kernel
theorem dX7_sway_89 : decode cX7_sway 89 = .ok (.istore_n 3, 1) := by decide +kernel
theorem dX7_sway_90 : decode cX7_sway 90 = .ok (.iinc 4 1, 3) := by decide +kernel
theorem dX7_sway_93 : decode cX7_sway 93 = .ok (.goto (-55), 3) := by decide +kernel
theorem dX7_sway_96 : decode cX7_sway 96 = .ok (.iload_n 3, 1) := by decide +kernel
theorem dX7_sway_97 : decode cX7_sway 97 = .ok (.ireturn, 1) := by decide +kernel
set_option maxRecDepth 20000 in
theorem ggX7_darkOf_X7_shadeOf : GoodIn wsX7_darkOf wsX7_shadeOf := goodIn_r _ [6, 7, 8, 9, 5, 10, 11, 12, 13, 14, 15, 16, 17, 18, 19, 20, 21, 22, 23, 24, 25, 26, 27, 28, 29, 30, 31, 32, 33, 34, 35, 36, 37, 38, 39, 40] (by decide +kernel) (by decide +kernel)
set_option maxRecDepth 20000 in
theorem gX7_darkOf_X7_shadeOf : GoodIn wsX7_darkOf (wsV RX7 129 RX7 yX7_shadeOf wsX7_shadeOf) := goodIn_app (goodIn_of _ (by decide +kernel)) ggX7_darkOf_X7_shadeOf
theorem dX7_darkOf_0 : decode cX7_darkOf 0 = .ok (.iconst 0, 1) := by decide +kernel
theorem dX7_darkOf_1 : decode cX7_darkOf 1 = .ok (.istore_n 2, 1) := by decide +kernel
theorem dX7_darkOf_2 : decode cX7_darkOf 2 = .ok (.iconst 0, 1) := by decide +kernel
theorem dX7_darkOf_3 : decode cX7_darkOf 3 = .ok (.istore_n 3, 1) := by decide +kernel
theorem dX7_darkOf_4 : decode cX7_darkOf 4 = .ok (.iload_n 3, 1) := by decide +kernel
theorem dX7_darkOf_5 : decode cX7_darkOf 5 = .ok (.aload_n 0, 1) := by decide +kernel
theorem dX7_darkOf_6 : decode cX7_darkOf 6 = .ok (.getfield 29, 3) := by decide +kernel
theorem dX7_darkOf_9 : decode cX7_darkOf 9 = .ok (.iconst 3, 1) := by decide +kernel
theorem dX7_darkOf_10 : decode cX7_darkOf 10 = .ok (.iaload, 1) := by decide +kernel
theorem dX7_darkOf_11 : decode cX7_darkOf 11 = .ok (.if_icmp .ge 25, 3) := by decide +kernel
theorem dX7_darkOf_14 : decode cX7_darkOf 14 = .ok (.iload_n 2, 1) := by decide +kernel
theorem dX7_darkOf_15 : decode cX7_darkOf 15 = .ok (.aload_n 0, 1) := by decide +kernel
theorem dX7_darkOf_16 : decode cX7_darkOf 16 = .ok (.aload_n 0, 1) := by decide +kernel
theorem dX7_darkOf_17 : decode cX7_darkOf 17 = .ok (.getfield 29, 3) := by decide +kernel
theorem dX7_darkOf_20 : decode cX7_darkOf 20 = .ok (.iload_n 3, 1) := by decide +kernel
theorem dX7_darkOf_21 : decode cX7_darkOf 21 = .ok (.invokevirtual 129, 3) := by decide +kernel
theorem dX7_darkOf_24 : decode cX7_darkOf 24 = .ok (.iload_n 1, 1) := by decide +kernel
theorem dX7_darkOf_25 : decode cX7_darkOf 25 = .ok (.ishr, 1) := by decide +kernel
theorem dX7_darkOf_26 : decode cX7_darkOf 26 = .ok (.iconst 1, 1) := by decide +kernel
theorem dX7_darkOf_27 : decode cX7_darkOf 27 = .ok (.iand, 1) := by decide +kernel
theorem dX7_darkOf_28 : decode cX7_darkOf 28 = .ok (.iadd, 1) := by decide +kernel
theorem dX7_darkOf_29 : decode cX7_darkOf 29 = .ok (.istore_n 2, 1) := by decide +kernel
theorem dX7_darkOf_30 : decode cX7_darkOf 30 = .ok (.iinc 3 1, 3) := by decide +kernel
theorem dX7_darkOf_33 : decode cX7_darkOf 33 = .ok (.goto (-29), 3) := by decide +kernel
theorem dX7_darkOf_36 : decode cX7_darkOf 36 = .ok (.iload_n 2, 1) := by decide +kernel
theorem dX7_darkOf_37 : decode cX7_darkOf 37 = .ok (.ireturn, 1) := by decide +kernel
set_option maxRecDepth 20000 in
theorem ggX7_cool_X7_isOne : GoodIn wsX7_cool wsX7_isOne := goodIn_r _ [8, 9, 10, 11, 7, 12, 29, 30, 31, 32, 33, 34, 35, 36, 37, 38, 39, 40, 41, 42, 43, 44, 45, 46, 47, 48, 49, 50, 51, 52, 53, 54, 55, 56, 57] (by decide +kernel) (by decide +kernel)
set_option maxRecDepth 20000 in
theorem gX7_cool_X7_isOne : GoodIn wsX7_cool (wsV RX7 157 RX7 yX7_isOne wsX7_isOne) := goodIn_app (goodIn_of _ (by decide +kernel)) ggX7_cool_X7_isOne
set_option maxRecDepth 20000 in
theorem ggX7_cool_X7_steps : GoodIn wsX7_cool wsX7_steps := goodIn_r _ [16, 1, 29, 30, 31, 32, 33, 34, 35, 36, 37, 38, 39, 40, 41, 42, 43, 44, 45, 46, 47, 48, 49, 50, 51, 52, 53, 54, 55, 56, 57] (by decide +kernel) (by decide +kernel)
set_option maxRecDepth 20000 in
theorem gX7_cool_X7_steps : GoodIn wsX7_cool (wsV RX7 179 RX7 yX7_steps wsX7_steps) := goodIn_app (goodIn_of _ (by decide +kernel)) ggX7_cool_X7_steps
set_option maxRecDepth 20000 in
theorem ggX7_cool_X7_darkOf : GoodIn wsX7_cool wsX7_darkOf := goodIn_r _ [20, 3, 21, 22, 23, 7, 24, 25, 26, 27, 28, 1, 29, 30, 31, 32, 33, 34, 35, 36, 37, 38, 39, 40, 41, 42, 43, 44, 45, 46, 47, 48, 49, 50, 51, 52, 53, 54, 55, 56, 57] (by decide +kernel) (by decide +kernel)
set_option maxRecDepth 20000 in
theorem gX7_cool_X7_darkOf : GoodIn wsX7_cool (wsV RX7 190 RX7 yX7_darkOf wsX7_darkOf) := goodIn_app (goodIn_of _ (by decide +kernel)) ggX7_cool_X7_darkOf
theorem dX7_cool_0 : decode cX7_cool 0 = .ok (.aload_n 0, 1) := by decide +kernel
theorem dX7_cool_1 : decode cX7_cool 1 = .ok (.iload_n 1, 1) := by decide +kernel
theorem dX7_cool_2 : decode cX7_cool 2 = .ok (.invokevirtual 157, 3) := by decide +kernel
theorem dX7_cool_5 : decode cX7_cool 5 = .ok (.ifCond .ne 5, 3) := by decide +kernel
theorem dX7_cool_8 : decode cX7_cool 8 = .ok (.iconst (-1), 1) := by decide +kernel
theorem dX7_cool_9 : decode cX7_cool 9 = .ok (.ireturn, 1) := by decide +kernel
theorem dX7_cool_10 : decode cX7_cool 10 = .ok (.bipush (-9), 2) := by decide +kernel
theorem dX7_cool_12 : decode cX7_cool 12 = .ok (.istore_n 2, 1) := by decide +kernel
theorem dX7_cool_13 : decode cX7_cool 13 = .ok (.iconst 0, 1) := by decide +kernel
theorem dX7_cool_14 : decode cX7_cool 14 = .ok (.istore_n 3, 1) := by decide +kernel
theorem dX7_cool_15 : decode cX7_cool 15 = .ok (.iload_n 3, 1) := by decide +kernel
theorem dX7_cool_16 : decode cX7_cool 16 = .ok (.aload_n 0, 1) := by decide +kernel
theorem dX7_cool_17 : decode cX7_cool 17 = .ok (.getfield 19, 3) := by decide +kernel
theorem dX7_cool_20 : decode cX7_cool 20 = .ok (.aload_n 0, 1) := by decide +kernel
theorem dX7_cool_21 : decode cX7_cool 21 = .ok (.getfield 23, 3) := by decide +kernel
theorem dX7_cool_24 : decode cX7_cool 24 = .ok (.imul, 1) := by decide +kernel
theorem dX7_cool_25 : decode cX7_cool 25 = .ok (.if_icmp .ge 70, 3) := by decide +kernel
theorem dX7_cool_28 : decode cX7_cool 28 = .ok (.iload_n 2, 1) := by decide +kernel
theorem dX7_cool_29 : decode cX7_cool 29 = .ok (.ifCond .lt 34, 3) := by decide +kernel
theorem dX7_cool_32 : decode cX7_cool 32 = .ok (.aload_n 0, 1) := by decide +kernel
theorem dX7_cool_33 : decode cX7_cool 33 = .ok (.iload_n 3, 1) := by decide +kernel
theorem dX7_cool_34 : decode cX7_cool 34 = .ok (.aload_n 0, 1) := by decide +kernel
theorem dX7_cool_35 : decode cX7_cool 35 = .ok (.getfield 29, 3) := by decide +kernel
theorem dX7_cool_38 : decode cX7_cool 38 = .ok (.bipush 29, 2) := by decide +kernel
theorem dX7_cool_40 : decode cX7_cool 40 = .ok (.iload_n 1, 1) := by decide +kernel
theorem dX7_cool_41 : decode cX7_cool 41 = .ok (.iadd, 1) := by decide +kernel
theorem dX7_cool_42 : decode cX7_cool 42 = .ok (.iaload, 1) := by decide +kernel
theorem dX7_cool_43 : decode cX7_cool 43 = .ok (.invokevirtual 179, 3) := by decide +kernel
theorem dX7_cool_46 : decode cX7_cool 46 = .ok (.aload_n 0, 1) := by decide +kernel
theorem dX7_cool_47 : decode cX7_cool 47 = .ok (.iload_n 2, 1) := by decide +kernel
theorem dX7_cool_48 : decode cX7_cool 48 = .ok (.aload_n 0, 1) := by decide +kernel
theorem dX7_cool_49 : decode cX7_cool 49 = .ok (.getfield 29, 3) := by decide +kernel
theorem dX7_cool_52 : decode cX7_cool 52 = .ok (.bipush 29, 2) := by decide +kernel
theorem dX7_cool_54 : decode cX7_cool 54 = .ok (.iload_n 1, 1) := by decide +kernel
theorem dX7_cool_55 : decode cX7_cool 55 = .ok (.iadd, 1) := by decide +kernel
theorem dX7_cool_56 : decode cX7_cool 56 = .ok (.iaload, 1) := by decide +kernel
theorem dX7_cool_57 : decode cX7_cool 57 = .ok (.invokevirtual 179, 3) := by decide +kernel
theorem dX7_cool_60 : decode cX7_cool 60 = .ok (.if_icmp .ge 7, 3) := by decide +kernel
theorem dX7_cool_63 : decode cX7_cool 63 = .ok (.iconst 1, 1) := by decide +kernel
theorem dX7_cool_64 : decode cX7_cool 64 = .ok (.goto 4, 3) := by decide +kernel
theorem dX7_cool_67 : decode cX7_cool 67 = .ok (.iconst 0, 1) := by decide +kernel
theorem dX7_cool_68 : decode cX7_cool 68 = .ok (.istore 4, 2) := by decide +kernel
theorem dX7_cool_70 : decode cX7_cool 70 = .ok (.aload_n 0, 1) := by decide +kernel
theorem dX7_cool_71 : decode cX7_cool 71 = .ok (.iload_n 3, 1) := by decide +kernel
theorem dX7_cool_72 : decode cX7_cool 72 = .ok (.invokevirtual 190, 3) := by decide +kernel
theorem dX7_cool_75 : decode cX7_cool 75 = .ok (.ifCond .le 12, 3) := by decide +kernel
theorem dX7_cool_78 : decode cX7_cool 78 = .ok (.iload 4, 2) := by decide +kernel
theorem dX7_cool_80 : decode cX7_cool 80 = .ok (.ifCond .eq 7, 3) := by decide +kernel
theorem dX7_cool_83 : decode cX7_cool 83 = .ok (.iload_n 3, 1) := by decide +kernel
theorem dX7_cool_84 : decode cX7_cool 84 = .ok (.goto 4, 3) := by decide +kernel
theorem dX7_cool_87 : decode cX7_cool 87 = .ok (.iload_n 2, 1) := by decide +kernel
theorem dX7_cool_88 : decode cX7_cool 88 = .ok (.istore_n 2, 1) := by decide +kernel
theorem dX7_cool_89 : decode cX7_cool 89 = .ok (.iinc 3 1, 3) := by decide +kernel
theorem dX7_cool_92 : decode cX7_cool 92 = .ok (.goto (-77), 3) := by decide +kernel
theorem dX7_cool_95 : decode cX7_cool 95 = .ok (.iload_n 2, 1) := by decide +kernel
theorem dX7_cool_96 : decode cX7_cool 96 = .ok (.ireturn, 1) := by decide +kernel
set_option maxRecDepth 20000 in
theorem ggX7_dark_X7_isCell : GoodIn wsX7_dark wsX7_isCell := goodIn_r _ [5, 6, 7, 8, 9, 4, 10, 24, 25, 26, 27, 28, 29, 30, 31, 32, 33, 34, 35, 36, 37, 38, 39, 40, 41, 42, 43, 44, 45, 46, 47, 48, 49, 50, 51, 52] (by decide +kernel) (by decide +kernel)
set_option maxRecDepth 20000 in
theorem gX7_dark_X7_isCell : GoodIn wsX7_dark (wsV RX7 173 RX7 yX7_isCell wsX7_isCell) := goodIn_app (goodIn_of _ (by decide +kernel)) ggX7_dark_X7_isCell
set_option maxRecDepth 20000 in
theorem ggX7_dark_X7_darkOf : GoodIn wsX7_dark wsX7_darkOf := goodIn_r _ [14, 15, 16, 17, 18, 4, 19, 20, 21, 22, 23, 6, 24, 25, 26, 27, 28, 29, 30, 31, 32, 33, 34, 35, 36, 37, 38, 39, 40, 41, 42, 43, 44, 45, 46, 47, 48, 49, 50, 51, 52] (by decide +kernel) (by decide +kernel)
set_option maxRecDepth 20000 in
theorem gX7_dark_X7_darkOf : GoodIn wsX7_dark (wsV RX7 190 RX7 yX7_darkOf wsX7_darkOf) := goodIn_app (goodIn_of _ (by decide +kernel)) ggX7_dark_X7_darkOf
theorem dX7_dark_0 : decode cX7_dark 0 = .ok (.aload_n 0, 1) := by decide +kernel
theorem dX7_dark_1 : decode cX7_dark 1 = .ok (.iload_n 1, 1) := by decide +kernel
theorem dX7_dark_2 : decode cX7_dark 2 = .ok (.invokevirtual 173, 3) := by decide +kernel
theorem dX7_dark_5 : decode cX7_dark 5 = .ok (.ifCond .eq 11, 3) := by decide +kernel
theorem dX7_dark_8 : decode cX7_dark 8 = .ok (.aload_n 0, 1) := by decide +kernel
theorem dX7_dark_9 : decode cX7_dark 9 = .ok (.iload_n 1, 1) := by decide +kernel
theorem dX7_dark_10 : decode cX7_dark 10 = .ok (.invokevirtual 190, 3) := by decide +kernel
theorem dX7_dark_13 : decode cX7_dark 13 = .ok (.goto 4, 3) := by decide +kernel
theorem dX7_dark_16 : decode cX7_dark 16 = .ok (.iconst (-1), 1) := by decide +kernel
theorem dX7_dark_17 : decode cX7_dark 17 = .ok (.ireturn, 1) := by decide +kernel
theorem dX7_heightOf_0 : decode cX7_heightOf 0 = .ok (.aload_n 0, 1) := by decide +kernel
theorem dX7_heightOf_1 : decode cX7_heightOf 1 = .ok (.dup, 1) := by decide +kernel
theorem dX7_heightOf_2 : decode cX7_heightOf 2 = .ok (.getfield 193, 3) := by decide +kernel
theorem dX7_heightOf_5 : decode cX7_heightOf 5 = .ok (.lconst 1, 1) := by decide +kernel
theorem dX7_heightOf_6 : decode cX7_heightOf 6 = .ok (.ladd, 1) := by decide +kernel
theorem dX7_heightOf_7 : decode cX7_heightOf 7 = .ok (.putfield 193, 3) := by decide +kernel
theorem dX7_heightOf_10 : decode cX7_heightOf 10 = .ok (.aload_n 0, 1) := by decide +kernel
theorem dX7_heightOf_11 : decode cX7_heightOf 11 = .ok (.getfield 29, 3) := by decide +kernel
theorem dX7_heightOf_14 : decode cX7_heightOf 14 = .ok (.bipush 9, 2) := by decide +kernel
theorem dX7_heightOf_16 : decode cX7_heightOf 16 = .ok (.iload_n 1, 1) := by decide +kernel
theorem dX7_heightOf_17 : decode cX7_heightOf 17 = .ok (.iadd, 1) := by decide +kernel
theorem dX7_heightOf_18 : decode cX7_heightOf 18 = .ok (.iaload, 1) := by decide +kernel
theorem dX7_heightOf_19 : decode cX7_heightOf 19 = .ok (.ireturn, 1) := by decide +kernel
set_option maxRecDepth 20000 in
theorem ggX7_oakOf_X7_heightOf : GoodIn wsX7_oakOf wsX7_heightOf := goodIn_r _ [7, 1, 8, 33, 34, 35, 36, 37, 38, 39, 40, 41, 42, 43, 44, 45, 46, 47, 48, 49, 50, 51, 52, 53, 54, 55, 56, 57, 58, 59, 60, 61] (by decide +kernel) (by decide +kernel)
set_option maxRecDepth 20000 in
theorem gX7_oakOf_X7_heightOf : GoodIn wsX7_oakOf (wsV RX7 199 RX7 yX7_heightOf wsX7_heightOf) := goodIn_app (goodIn_of _ (by decide +kernel)) ggX7_oakOf_X7_heightOf
set_option maxRecDepth 20000 in
theorem ggX7_oakOf_X7_weightUnder : GoodIn wsX7_oakOf wsX7_weightUnder := goodIn_r _ [12, 13, 8, 14, 15, 16, 17, 6, 18, 19, 20, 21, 22, 23, 24, 25, 26, 27, 28, 29, 30, 31, 32, 33, 34, 35, 36, 37, 38, 39, 40, 41, 42, 43, 44, 45, 46, 47, 48, 49, 50, 51, 52, 53, 54, 55, 56, 57, 58, 59, 60, 61] (by decide +kernel) (by decide +kernel)
set_option maxRecDepth 20000 in
theorem gX7_oakOf_X7_weightUnder : GoodIn wsX7_oakOf (wsV RX7 187 RX7 yX7_weightUnder wsX7_weightUnder) := goodIn_app (goodIn_of _ (by decide +kernel)) ggX7_oakOf_X7_weightUnder
theorem dX7_oakOf_0 : decode cX7_oakOf 0 = .ok (.aload_n 0, 1) := by decide +kernel
theorem dX7_oakOf_1 : decode cX7_oakOf 1 = .ok (.dup, 1) := by decide +kernel
theorem dX7_oakOf_2 : decode cX7_oakOf 2 = .ok (.getfield 193, 3) := by decide +kernel
theorem dX7_oakOf_5 : decode cX7_oakOf 5 = .ok (.ldc2_w 197, 3) := by decide +kernel
theorem dX7_oakOf_8 : decode cX7_oakOf 8 = .ok (.ladd, 1) := by decide +kernel
theorem dX7_oakOf_9 : decode cX7_oakOf 9 = .ok (.putfield 193, 3) := by decide +kernel
theorem dX7_oakOf_12 : decode cX7_oakOf 12 = .ok (.aload_n 0, 1) := by decide +kernel
theorem dX7_oakOf_13 : decode cX7_oakOf 13 = .ok (.iload_n 1, 1) := by decide +kernel
theorem dX7_oakOf_14 : decode cX7_oakOf 14 = .ok (.invokevirtual 199, 3) := by decide +kernel
theorem dX7_oakOf_17 : decode cX7_oakOf 17 = .ok (.aload_n 0, 1) := by decide +kernel
theorem dX7_oakOf_18 : decode cX7_oakOf 18 = .ok (.iload_n 1, 1) := by decide +kernel
theorem dX7_oakOf_19 : decode cX7_oakOf 19 = .ok (.invokevirtual 187, 3) := by decide +kernel
theorem dX7_oakOf_22 : decode cX7_oakOf 22 = .ok (.iadd, 1) := by decide +kernel
theorem dX7_oakOf_23 : decode cX7_oakOf 23 = .ok (.ireturn, 1) := by decide +kernel
set_option maxRecDepth 20000 in
theorem ggX7_poplarOf_X7_heightOf : GoodIn wsX7_poplarOf wsX7_heightOf := goodIn_r _ [8, 1, 3, 9, 10, 11, 12, 13, 14, 15, 16, 17, 18, 19, 20, 21, 22, 23, 24, 25, 26, 27, 28, 29, 30, 31, 32, 33, 34, 35, 36, 37] (by decide +kernel) (by decide +kernel)
set_option maxRecDepth 20000 in
theorem gX7_poplarOf_X7_heightOf : GoodIn wsX7_poplarOf (wsV RX7 199 RX7 yX7_heightOf wsX7_heightOf) := goodIn_app (goodIn_of _ (by decide +kernel)) ggX7_poplarOf_X7_heightOf
theorem dX7_poplarOf_0 : decode cX7_poplarOf 0 = .ok (.aload_n 0, 1) := by decide +kernel
theorem dX7_poplarOf_1 : decode cX7_poplarOf 1 = .ok (.dup, 1) := by decide +kernel
theorem dX7_poplarOf_2 : decode cX7_poplarOf 2 = .ok (.getfield 193, 3) := by decide +kernel
theorem dX7_poplarOf_5 : decode cX7_poplarOf 5 = .ok (.ldc2_w 202, 3) := by decide +kernel
theorem dX7_poplarOf_8 : decode cX7_poplarOf 8 = .ok (.ladd, 1) := by decide +kernel
theorem dX7_poplarOf_9 : decode cX7_poplarOf 9 = .ok (.putfield 193, 3) := by decide +kernel
theorem dX7_poplarOf_12 : decode cX7_poplarOf 12 = .ok (.aload_n 0, 1) := by decide +kernel
theorem dX7_poplarOf_13 : decode cX7_poplarOf 13 = .ok (.iload_n 1, 1) := by decide +kernel
theorem dX7_poplarOf_14 : decode cX7_poplarOf 14 = .ok (.invokevirtual 199, 3) := by decide +kernel
theorem dX7_poplarOf_17 : decode cX7_poplarOf 17 = .ok (.aload_n 0, 1) := by decide +kernel
theorem dX7_poplarOf_18 : decode cX7_poplarOf 18 = .ok (.getfield 29, 3) := by decide +kernel
theorem dX7_poplarOf_21 : decode cX7_poplarOf 21 = .ok (.iconst 4, 1) := by decide +kernel
theorem dX7_poplarOf_22 : decode cX7_poplarOf 22 = .ok (.iload_n 1, 1) := by decide +kernel
theorem dX7_poplarOf_23 : decode cX7_poplarOf 23 = .ok (.iadd, 1) := by decide +kernel
theorem dX7_poplarOf_24 : decode cX7_poplarOf 24 = .ok (.iaload, 1) := by decide +kernel
theorem dX7_poplarOf_25 : decode cX7_poplarOf 25 = .ok (.isub, 1) := by decide +kernel
theorem dX7_poplarOf_26 : decode cX7_poplarOf 26 = .ok (.ireturn, 1) := by decide +kernel
set_option maxRecDepth 20000 in
theorem ggX7_rate_X7_in : GoodIn wsX7_rate wsX7_in := goodIn_r _ [12] (by decide +kernel) (by decide +kernel)
set_option maxRecDepth 20000 in
theorem gX7_rate_X7_in : GoodIn wsX7_rate (va_wsS RX7 51 yX7_in wsX7_in) := goodIn_app (goodIn_of _ (by decide +kernel)) ggX7_rate_X7_in
set_option maxRecDepth 20000 in
theorem ggX7_rate_X7_isTree : GoodIn wsX7_rate wsX7_isTree := goodIn_r _ [16, 8, 9, 10, 11, 12, 54, 55, 56, 57, 58, 59, 60, 61, 62, 63, 64, 65, 66, 67, 68, 69, 70, 71, 72, 73, 74, 75, 76, 77, 78, 79, 80, 81, 82] (by decide +kernel) (by decide +kernel)
set_option maxRecDepth 20000 in
theorem gX7_rate_X7_isTree : GoodIn wsX7_rate (wsV RX7 153 RX7 yX7_isTree wsX7_isTree) := goodIn_app (goodIn_of _ (by decide +kernel)) ggX7_rate_X7_isTree
set_option maxRecDepth 20000 in
theorem ggX7_rate_X7_heightOf : GoodIn wsX7_rate wsX7_heightOf := goodIn_r _ [20, 2, 8, 54, 55, 56, 57, 58, 59, 60, 61, 62, 63, 64, 65, 66, 67, 68, 69, 70, 71, 72, 73, 74, 75, 76, 77, 78, 79, 80, 81, 82] (by decide +kernel) (by decide +kernel)
set_option maxRecDepth 20000 in
theorem gX7_rate_X7_heightOf : GoodIn wsX7_rate (wsV RX7 199 RX7 yX7_heightOf wsX7_heightOf) := goodIn_app (goodIn_of _ (by decide +kernel)) ggX7_rate_X7_heightOf
set_option maxRecDepth 20000 in
theorem ggX7_rate_X7_oakOf : GoodIn wsX7_rate wsX7_oakOf := goodIn_r _ [24, 2, 25, 17, 18, 19, 11, 20, 8, 26, 27, 28, 29, 30, 31, 32, 33, 34, 35, 36, 37, 38, 39, 40, 41, 42, 43, 44, 45, 6, 46, 47, 48, 54, 55, 56, 57, 58, 59, 60, 61, 62, 63, 64, 65, 66, 67, 68, 69, 70, 71, 72, 73, 74, 75, 76, 77, 78, 79, 80, 81, 82] (by decide +kernel) (by decide +kernel)
set_option maxRecDepth 20000 in
theorem gX7_rate_X7_oakOf : GoodIn wsX7_rate (wsV RX7 205 RX7 yX7_oakOf wsX7_oakOf) := goodIn_app (goodIn_of _ (by decide +kernel)) ggX7_rate_X7_oakOf
set_option maxRecDepth 20000 in
theorem ggX7_rate_X7_poplarOf : GoodIn wsX7_rate wsX7_poplarOf := goodIn_r _ [52, 2, 53, 8, 17, 18, 19, 11, 20, 54, 55, 56, 57, 58, 59, 60, 61, 62, 63, 64, 65, 66, 67, 68, 69, 70, 71, 72, 73, 74, 75, 76, 77, 78, 79, 80, 81, 82] (by decide +kernel) (by decide +kernel)
set_option maxRecDepth 20000 in
theorem gX7_rate_X7_poplarOf : GoodIn wsX7_rate (wsV RX7 208 RX7 yX7_poplarOf wsX7_poplarOf) := goodIn_app (goodIn_of _ (by decide +kernel)) ggX7_rate_X7_poplarOf
set_option maxRecDepth 20000 in
theorem ggX7_rate_X7_shadeOf : GoodIn wsX7_rate wsX7_shadeOf := goodIn_r _ [41, 42, 43, 44, 11, 45, 6, 54, 55, 56, 57, 58, 59, 60, 61, 62, 63, 64, 65, 66, 67, 68, 69, 70, 71, 72, 73, 74, 75, 76, 77, 78, 79, 80, 81, 82] (by decide +kernel) (by decide +kernel)
set_option maxRecDepth 20000 in
theorem gX7_rate_X7_shadeOf : GoodIn wsX7_rate (wsV RX7 129 RX7 yX7_shadeOf wsX7_shadeOf) := goodIn_app (goodIn_of _ (by decide +kernel)) ggX7_rate_X7_shadeOf
theorem dX7_rate_0 : decode cX7_rate 0 = .ok (.iload_n 1, 1) := by decide +kernel
theorem dX7_rate_1 : decode cX7_rate 1 = .ok (.iconst 0, 1) := by decide +kernel
theorem dX7_rate_2 : decode cX7_rate 2 = .ok (.iconst 5, 1) := by decide +kernel
theorem dX7_rate_3 : decode cX7_rate 3 = .ok (.invokestatic 51, 3) := by decide +kernel
theorem dX7_rate_6 : decode cX7_rate 6 = .ok (.ifCond .eq 11, 3) := by decide +kernel
theorem dX7_rate_9 : decode cX7_rate 9 = .ok (.aload_n 0, 1) := by decide +kernel
theorem dX7_rate_10 : decode cX7_rate 10 = .ok (.iload_n 2, 1) := by decide +kernel
theorem dX7_rate_11 : decode cX7_rate 11 = .ok (.invokevirtual 153, 3) := by decide +kernel
theorem dX7_rate_14 : decode cX7_rate 14 = .ok (.ifCond .ne 6, 3) := by decide +kernel
theorem dX7_rate_17 : decode cX7_rate 17 = .ok (.ldc 204, 2) := by decide +kernel
theorem dX7_rate_19 : decode cX7_rate 19 = .ok (.ireturn, 1) := by decide +kernel
theorem dX7_rate_20 : decode cX7_rate 20 = .ok (.iload_n 1, 1) := by decide +kernel
theorem dX7_rate_21 : decode cX7_rate 21 = .ok (.tableswitch 93 0 4 #[35, 41, 47, 53, 73], 35) := by decide +kernel
theorem dX7_rate_56 : decode cX7_rate 56 = .ok (.aload_n 0, 1) := by decide +kernel
theorem dX7_rate_57 : decode cX7_rate 57 = .ok (.iload_n 2, 1) := by decide +kernel
theorem dX7_rate_58 : decode cX7_rate 58 = .ok (.invokevirtual 199, 3) := by decide +kernel
theorem dX7_rate_61 : decode cX7_rate 61 = .ok (.ireturn, 1) := by decide +kernel
theorem dX7_rate_62 : decode cX7_rate 62 = .ok (.aload_n 0, 1) := by decide +kernel
theorem dX7_rate_63 : decode cX7_rate 63 = .ok (.iload_n 2, 1) := by decide +kernel
theorem dX7_rate_64 : decode cX7_rate 64 = .ok (.invokevirtual 205, 3) := by decide +kernel
theorem dX7_rate_67 : decode cX7_rate 67 = .ok (.ireturn, 1) := by decide +kernel
theorem dX7_rate_68 : decode cX7_rate 68 = .ok (.aload_n 0, 1) := by decide +kernel
theorem dX7_rate_69 : decode cX7_rate 69 = .ok (.iload_n 2, 1) := by decide +kernel
theorem dX7_rate_70 : decode cX7_rate 70 = .ok (.invokevirtual 208, 3) := by decide +kernel
theorem dX7_rate_73 : decode cX7_rate 73 = .ok (.ireturn, 1) := by decide +kernel
theorem dX7_rate_74 : decode cX7_rate 74 = .ok (.aload_n 0, 1) := by decide +kernel
theorem dX7_rate_75 : decode cX7_rate 75 = .ok (.dup, 1) := by decide +kernel
theorem dX7_rate_76 : decode cX7_rate 76 = .ok (.getfield 193, 3) := by decide +kernel
theorem dX7_rate_79 : decode cX7_rate 79 = .ok (.ldc2_w 211, 3) := by decide +kernel
theorem dX7_rate_82 : decode cX7_rate 82 = .ok (.ladd, 1) := by decide +kernel
theorem dX7_rate_83 : decode cX7_rate 83 = .ok (.putfield 193, 3) := by decide +kernel
theorem dX7_rate_86 : decode cX7_rate 86 = .ok (.iconst 2, 1) := by decide +kernel
theorem dX7_rate_87 : decode cX7_rate 87 = .ok (.aload_n 0, 1) := by decide +kernel
theorem dX7_rate_88 : decode cX7_rate 88 = .ok (.iload_n 2, 1) := by decide +kernel
theorem dX7_rate_89 : decode cX7_rate 89 = .ok (.invokevirtual 205, 3) := by decide +kernel
theorem dX7_rate_92 : decode cX7_rate 92 = .ok (.imul, 1) := by decide +kernel
theorem dX7_rate_93 : decode cX7_rate 93 = .ok (.ireturn, 1) := by decide +kernel
theorem dX7_rate_94 : decode cX7_rate 94 = .ok (.aload_n 0, 1) := by decide +kernel
theorem dX7_rate_95 : decode cX7_rate 95 = .ok (.dup, 1) := by decide +kernel
theorem dX7_rate_96 : decode cX7_rate 96 = .ok (.getfield 193, 3) := by decide +kernel
theorem dX7_rate_99 : decode cX7_rate 99 = .ok (.ldc2_w 213, 3) := by decide +kernel
theorem dX7_rate_102 : decode cX7_rate 102 = .ok (.ladd, 1) := by decide +kernel
theorem dX7_rate_103 : decode cX7_rate 103 = .ok (.putfield 193, 3) := by decide +kernel
theorem dX7_rate_106 : decode cX7_rate 106 = .ok (.aload_n 0, 1) := by decide +kernel
theorem dX7_rate_107 : decode cX7_rate 107 = .ok (.iload_n 2, 1) := by decide +kernel
theorem dX7_rate_108 : decode cX7_rate 108 = .ok (.invokevirtual 208, 3) := by decide +kernel
theorem dX7_rate_111 : decode cX7_rate 111 = .ok (.iload_n 2, 1) := by decide +kernel
theorem dX7_rate_112 : decode cX7_rate 112 = .ok (.iadd, 1) := by decide +kernel
theorem dX7_rate_113 : decode cX7_rate 113 = .ok (.ireturn, 1) := by decide +kernel
theorem dX7_rate_114 : decode cX7_rate 114 = .ok (.aload_n 0, 1) := by decide +kernel
theorem dX7_rate_115 : decode cX7_rate 115 = .ok (.dup, 1) := by decide +kernel
theorem dX7_rate_116 : decode cX7_rate 116 = .ok (.getfield 193, 3) := by decide +kernel
theorem dX7_rate_119 : decode cX7_rate 119 = .ok (.ldc2_w 215, 3) := by decide +kernel
theorem dX7_rate_122 : decode cX7_rate 122 = .ok (.ladd, 1) := by decide +kernel
theorem dX7_rate_123 : decode cX7_rate 123 = .ok (.putfield 193, 3) := by decide +kernel
theorem dX7_rate_126 : decode cX7_rate 126 = .ok (.iconst 0, 1) := by decide +kernel
theorem dX7_rate_127 : decode cX7_rate 127 = .ok (.istore_n 3, 1) := by decide +kernel
theorem dX7_rate_128 : decode cX7_rate 128 = .ok (.iconst 0, 1) := by decide +kernel
theorem dX7_rate_129 : decode cX7_rate 129 = .ok (.istore 4, 2) := by decide +kernel
theorem dX7_rate_131 : decode cX7_rate 131 = .ok (.iload 4, 2) := by decide +kernel
theorem dX7_rate_133 : decode cX7_rate 133 = .ok (.aload_n 0, 1) := by decide +kernel
theorem dX7_rate_134 : decode cX7_rate 134 = .ok (.getfield 19, 3) := by decide +kernel
theorem dX7_rate_137 : decode cX7_rate 137 = .ok (.aload_n 0, 1) := by decide +kernel
theorem dX7_rate_138 : decode cX7_rate 138 = .ok (.getfield 23, 3) := by decide +kernel
theorem dX7_rate_141 : decode cX7_rate 141 = .ok (.imul, 1) := by decide +kernel
theorem dX7_rate_142 : decode cX7_rate 142 = .ok (.if_icmp .ge 26, 3) := by decide +kernel
theorem dX7_rate_145 : decode cX7_rate 145 = .ok (.iload_n 3, 1) := by decide +kernel
theorem dX7_rate_146 : decode cX7_rate 146 = .ok (.aload_n 0, 1) := by decide +kernel
theorem dX7_rate_147 : decode cX7_rate 147 = .ok (.aload_n 0, 1) := by decide +kernel
theorem dX7_rate_148 : decode cX7_rate 148 = .ok (.getfield 29, 3) := by decide +kernel
theorem dX7_rate_151 : decode cX7_rate 151 = .ok (.iload_n 2, 1) := by decide +kernel
theorem dX7_rate_152 : decode cX7_rate 152 = .ok (.invokevirtual 129, 3) := by decide +kernel
theorem dX7_rate_155 : decode cX7_rate 155 = .ok (.iload 4, 2) := by decide +kernel
theorem dX7_rate_157 : decode cX7_rate 157 = .ok (.ishr, 1) := by decide +kernel
theorem dX7_rate_158 : decode cX7_rate 158 = .ok (.iconst 1, 1) := by decide +kernel
theorem dX7_rate_159 : decode cX7_rate 159 = .ok (.iand, 1) := by decide +kernel
theorem dX7_rate_160 : decode cX7_rate 160 = .ok (.iadd, 1) := by decide +kernel
theorem dX7_rate_161 : decode cX7_rate 161 = .ok (.istore_n 3, 1) := by decide +kernel
theorem dX7_rate_162 : decode cX7_rate 162 = .ok (.iinc 4 1, 3) := by decide +kernel
theorem dX7_rate_165 : decode cX7_rate 165 = .ok (.goto (-34), 3) := by decide +kernel
theorem dX7_rate_168 : decode cX7_rate 168 = .ok (.aload_n 0, 1) := by decide +kernel
theorem dX7_rate_169 : decode cX7_rate 169 = .ok (.iload_n 2, 1) := by decide +kernel
theorem dX7_rate_170 : decode cX7_rate 170 = .ok (.invokevirtual 199, 3) := by decide +kernel
theorem dX7_rate_173 : decode cX7_rate 173 = .ok (.iload_n 3, 1) := by decide +kernel
theorem dX7_rate_174 : decode cX7_rate 174 = .ok (.iadd, 1) := by decide +kernel
theorem dX7_rate_175 : decode cX7_rate 175 = .ok (.ireturn, 1) := by decide +kernel
set_option maxRecDepth 20000 in
theorem ggX7_keep_X7_in : GoodIn wsX7_keep wsX7_in := goodIn_r _ [7] (by decide +kernel) (by decide +kernel)
set_option maxRecDepth 20000 in
theorem gX7_keep_X7_in : GoodIn wsX7_keep (va_wsS RX7 51 yX7_in wsX7_in) := goodIn_app (goodIn_of _ (by decide +kernel)) ggX7_keep_X7_in
set_option maxRecDepth 20000 in
theorem ggX7_keep_X7_copy : GoodIn wsX7_keep wsX7_copy := goodIn_r _ [10] (by decide +kernel) (by decide +kernel)
set_option maxRecDepth 20000 in
theorem gX7_keep_X7_copy : GoodIn wsX7_keep (va_wsS RX7 115 yX7_copy wsX7_copy) := goodIn_app (goodIn_of _ (by decide +kernel)) ggX7_keep_X7_copy
theorem dX7_keep_0 : decode cX7_keep 0 = .ok (.iload_n 1, 1) := by decide +kernel
theorem dX7_keep_1 : decode cX7_keep 1 = .ok (.iconst 0, 1) := by decide +kernel
theorem dX7_keep_2 : decode cX7_keep 2 = .ok (.iconst 1, 1) := by decide +kernel
theorem dX7_keep_3 : decode cX7_keep 3 = .ok (.invokestatic 51, 3) := by decide +kernel
theorem dX7_keep_6 : decode cX7_keep 6 = .ok (.ifCond .ne 5, 3) := by decide +kernel
theorem dX7_keep_9 : decode cX7_keep 9 = .ok (.iconst (-1), 1) := by decide +kernel
theorem dX7_keep_10 : decode cX7_keep 10 = .ok (.ireturn, 1) := by decide +kernel
theorem dX7_keep_11 : decode cX7_keep 11 = .ok (.aload_n 0, 1) := by decide +kernel
theorem dX7_keep_12 : decode cX7_keep 12 = .ok (.getfield 29, 3) := by decide +kernel
theorem dX7_keep_15 : decode cX7_keep 15 = .ok (.iconst 0, 1) := by decide +kernel
theorem dX7_keep_16 : decode cX7_keep 16 = .ok (.aload_n 0, 1) := by decide +kernel
theorem dX7_keep_17 : decode cX7_keep 17 = .ok (.getfield 35, 3) := by decide +kernel
theorem dX7_keep_20 : decode cX7_keep 20 = .ok (.bipush 36, 2) := by decide +kernel
theorem dX7_keep_22 : decode cX7_keep 22 = .ok (.iload_n 1, 1) := by decide +kernel
theorem dX7_keep_23 : decode cX7_keep 23 = .ok (.imul, 1) := by decide +kernel
theorem dX7_keep_24 : decode cX7_keep 24 = .ok (.invokestatic 115, 3) := by decide +kernel
theorem dX7_keep_27 : decode cX7_keep 27 = .ok (.aload_n 0, 1) := by decide +kernel
theorem dX7_keep_28 : decode cX7_keep 28 = .ok (.getfield 38, 3) := by decide +kernel
theorem dX7_keep_31 : decode cX7_keep 31 = .ok (.iload_n 1, 1) := by decide +kernel
theorem dX7_keep_32 : decode cX7_keep 32 = .ok (.iconst 1, 1) := by decide +kernel
theorem dX7_keep_33 : decode cX7_keep 33 = .ok (.bastore, 1) := by decide +kernel
theorem dX7_keep_34 : decode cX7_keep 34 = .ok (.aload_n 0, 1) := by decide +kernel
theorem dX7_keep_35 : decode cX7_keep 35 = .ok (.getfield 29, 3) := by decide +kernel
theorem dX7_keep_38 : decode cX7_keep 38 = .ok (.iconst 0, 1) := by decide +kernel
theorem dX7_keep_39 : decode cX7_keep 39 = .ok (.iaload, 1) := by decide +kernel
theorem dX7_keep_40 : decode cX7_keep 40 = .ok (.ireturn, 1) := by decide +kernel
set_option maxRecDepth 20000 in
theorem ggX7_back_X7_in : GoodIn wsX7_back wsX7_in := goodIn_r _ [8] (by decide +kernel) (by decide +kernel)
set_option maxRecDepth 20000 in
theorem gX7_back_X7_in : GoodIn wsX7_back (va_wsS RX7 51 yX7_in wsX7_in) := goodIn_app (goodIn_of _ (by decide +kernel)) ggX7_back_X7_in
set_option maxRecDepth 20000 in
theorem ggX7_back_X7_copy : GoodIn wsX7_back wsX7_copy := goodIn_r _ [11] (by decide +kernel) (by decide +kernel)
set_option maxRecDepth 20000 in
theorem gX7_back_X7_copy : GoodIn wsX7_back (va_wsS RX7 115 yX7_copy wsX7_copy) := goodIn_app (goodIn_of _ (by decide +kernel)) ggX7_back_X7_copy
theorem dX7_back_0 : decode cX7_back 0 = .ok (.iload_n 1, 1) := by decide +kernel
theorem dX7_back_1 : decode cX7_back 1 = .ok (.iconst 0, 1) := by decide +kernel
theorem dX7_back_2 : decode cX7_back 2 = .ok (.iconst 1, 1) := by decide +kernel
theorem dX7_back_3 : decode cX7_back 3 = .ok (.invokestatic 51, 3) := by decide +kernel
theorem dX7_back_6 : decode cX7_back 6 = .ok (.ifCond .ne 5, 3) := by decide +kernel
theorem dX7_back_9 : decode cX7_back 9 = .ok (.iconst (-1), 1) := by decide +kernel
theorem dX7_back_10 : decode cX7_back 10 = .ok (.ireturn, 1) := by decide +kernel
theorem dX7_back_11 : decode cX7_back 11 = .ok (.aload_n 0, 1) := by decide +kernel
theorem dX7_back_12 : decode cX7_back 12 = .ok (.getfield 38, 3) := by decide +kernel
theorem dX7_back_15 : decode cX7_back 15 = .ok (.iload_n 1, 1) := by decide +kernel
theorem dX7_back_16 : decode cX7_back 16 = .ok (.baload, 1) := by decide +kernel
theorem dX7_back_17 : decode cX7_back 17 = .ok (.ifCond .ne 6, 3) := by decide +kernel
theorem dX7_back_20 : decode cX7_back 20 = .ok (.bipush (-2), 2) := by decide +kernel
theorem dX7_back_22 : decode cX7_back 22 = .ok (.ireturn, 1) := by decide +kernel
theorem dX7_back_23 : decode cX7_back 23 = .ok (.aload_n 0, 1) := by decide +kernel
theorem dX7_back_24 : decode cX7_back 24 = .ok (.getfield 35, 3) := by decide +kernel
theorem dX7_back_27 : decode cX7_back 27 = .ok (.bipush 36, 2) := by decide +kernel
theorem dX7_back_29 : decode cX7_back 29 = .ok (.iload_n 1, 1) := by decide +kernel
theorem dX7_back_30 : decode cX7_back 30 = .ok (.imul, 1) := by decide +kernel
theorem dX7_back_31 : decode cX7_back 31 = .ok (.aload_n 0, 1) := by decide +kernel
theorem dX7_back_32 : decode cX7_back 32 = .ok (.getfield 29, 3) := by decide +kernel
theorem dX7_back_35 : decode cX7_back 35 = .ok (.iconst 0, 1) := by decide +kernel
theorem dX7_back_36 : decode cX7_back 36 = .ok (.invokestatic 115, 3) := by decide +kernel
theorem dX7_back_39 : decode cX7_back 39 = .ok (.aload_n 0, 1) := by decide +kernel
theorem dX7_back_40 : decode cX7_back 40 = .ok (.iconst 0, 1) := by decide +kernel
theorem dX7_back_41 : decode cX7_back 41 = .ok (.putfield 119, 3) := by decide +kernel
theorem dX7_back_44 : decode cX7_back 44 = .ok (.aload_n 0, 1) := by decide +kernel
theorem dX7_back_45 : decode cX7_back 45 = .ok (.getfield 29, 3) := by decide +kernel
theorem dX7_back_48 : decode cX7_back 48 = .ok (.iconst 0, 1) := by decide +kernel
theorem dX7_back_49 : decode cX7_back 49 = .ok (.iaload, 1) := by decide +kernel
theorem dX7_back_50 : decode cX7_back 50 = .ok (.ireturn, 1) := by decide +kernel
theorem dX7_count_0 : decode cX7_count 0 = .ok (.iload_n 1, 1) := by decide +kernel
theorem dX7_count_1 : decode cX7_count 1 = .ok (.tableswitch 60 0 4 #[35, 40, 45, 50, 55], 35) := by decide +kernel
theorem dX7_count_36 : decode cX7_count 36 = .ok (.aload_n 0, 1) := by decide +kernel
theorem dX7_count_37 : decode cX7_count 37 = .ok (.getfield 19, 3) := by decide +kernel
theorem dX7_count_40 : decode cX7_count 40 = .ok (.ireturn, 1) := by decide +kernel
theorem dX7_count_41 : decode cX7_count 41 = .ok (.aload_n 0, 1) := by decide +kernel
theorem dX7_count_42 : decode cX7_count 42 = .ok (.getfield 23, 3) := by decide +kernel
theorem dX7_count_45 : decode cX7_count 45 = .ok (.ireturn, 1) := by decide +kernel
theorem dX7_count_46 : decode cX7_count 46 = .ok (.aload_n 0, 1) := by decide +kernel
theorem dX7_count_47 : decode cX7_count 47 = .ok (.getfield 55, 3) := by decide +kernel
theorem dX7_count_50 : decode cX7_count 50 = .ok (.ireturn, 1) := by decide +kernel
theorem dX7_count_51 : decode cX7_count 51 = .ok (.aload_n 0, 1) := by decide +kernel
theorem dX7_count_52 : decode cX7_count 52 = .ok (.getfield 122, 3) := by decide +kernel
theorem dX7_count_55 : decode cX7_count 55 = .ok (.ireturn, 1) := by decide +kernel
theorem dX7_count_56 : decode cX7_count 56 = .ok (.aload_n 0, 1) := by decide +kernel
theorem dX7_count_57 : decode cX7_count 57 = .ok (.getfield 58, 3) := by decide +kernel
theorem dX7_count_60 : decode cX7_count 60 = .ok (.ireturn, 1) := by decide +kernel
theorem dX7_count_61 : decode cX7_count 61 = .ok (.iconst (-1), 1) := by decide +kernel
theorem dX7_count_62 : decode cX7_count 62 = .ok (.ireturn, 1) := by decide +kernel
theorem dX7_trace_0 : decode cX7_trace 0 = .ok (.aload_n 0, 1) := by decide +kernel
theorem dX7_trace_1 : decode cX7_trace 1 = .ok (.getfield 193, 3) := by decide +kernel
theorem dX7_trace_4 : decode cX7_trace 4 = .ok (.lreturn, 1) := by decide +kernel
theorem dJ6_bitCount_0f7a4_0 : decode cJ6_bitCount_0f7a4 0 = .ok (.iload_n 0, 1) := by decide +kernel
theorem dJ6_bitCount_0f7a4_1 : decode cJ6_bitCount_0f7a4 1 = .ok (.iload_n 0, 1) := by decide +kernel
theorem dJ6_bitCount_0f7a4_2 : decode cJ6_bitCount_0f7a4 2 = .ok (.iconst 1, 1) := by decide +kernel
theorem dJ6_bitCount_0f7a4_3 : decode cJ6_bitCount_0f7a4 3 = .ok (.iushr, 1) := by decide +kernel
theorem dJ6_bitCount_0f7a4_4 : decode cJ6_bitCount_0f7a4 4 = .ok (.ldc_w 265, 3) := by decide +kernel
theorem dJ6_bitCount_0f7a4_7 : decode cJ6_bitCount_0f7a4 7 = .ok (.iand, 1) := by decide +kernel
theorem dJ6_bitCount_0f7a4_8 : decode cJ6_bitCount_0f7a4 8 = .ok (.isub, 1) := by decide +kernel
theorem dJ6_bitCount_0f7a4_9 : decode cJ6_bitCount_0f7a4 9 = .ok (.istore_n 0, 1) := by decide +kernel
theorem dJ6_bitCount_0f7a4_10 : decode cJ6_bitCount_0f7a4 10 = .ok (.iload_n 0, 1) := by decide +kernel
theorem dJ6_bitCount_0f7a4_11 : decode cJ6_bitCount_0f7a4 11 = .ok (.ldc_w 266, 3) := by decide +kernel
theorem dJ6_bitCount_0f7a4_14 : decode cJ6_bitCount_0f7a4 14 = .ok (.iand, 1) := by decide +kernel
theorem dJ6_bitCount_0f7a4_15 : decode cJ6_bitCount_0f7a4 15 = .ok (.iload_n 0, 1) := by decide +kernel
theorem dJ6_bitCount_0f7a4_16 : decode cJ6_bitCount_0f7a4 16 = .ok (.iconst 2, 1) := by decide +kernel
theorem dJ6_bitCount_0f7a4_17 : decode cJ6_bitCount_0f7a4 17 = .ok (.iushr, 1) := by decide +kernel
theorem dJ6_bitCount_0f7a4_18 : decode cJ6_bitCount_0f7a4 18 = .ok (.ldc_w 266, 3) := by decide +kernel
theorem dJ6_bitCount_0f7a4_21 : decode cJ6_bitCount_0f7a4 21 = .ok (.iand, 1) := by decide +kernel
theorem dJ6_bitCount_0f7a4_22 : decode cJ6_bitCount_0f7a4 22 = .ok (.iadd, 1) := by decide +kernel
theorem dJ6_bitCount_0f7a4_23 : decode cJ6_bitCount_0f7a4 23 = .ok (.istore_n 0, 1) := by decide +kernel
theorem dJ6_bitCount_0f7a4_24 : decode cJ6_bitCount_0f7a4 24 = .ok (.iload_n 0, 1) := by decide +kernel
theorem dJ6_bitCount_0f7a4_25 : decode cJ6_bitCount_0f7a4 25 = .ok (.iload_n 0, 1) := by decide +kernel
theorem dJ6_bitCount_0f7a4_26 : decode cJ6_bitCount_0f7a4 26 = .ok (.iconst 4, 1) := by decide +kernel
theorem dJ6_bitCount_0f7a4_27 : decode cJ6_bitCount_0f7a4 27 = .ok (.iushr, 1) := by decide +kernel
theorem dJ6_bitCount_0f7a4_28 : decode cJ6_bitCount_0f7a4 28 = .ok (.iadd, 1) := by decide +kernel
theorem dJ6_bitCount_0f7a4_29 : decode cJ6_bitCount_0f7a4 29 = .ok (.ldc_w 267, 3) := by decide +kernel
theorem dJ6_bitCount_0f7a4_32 : decode cJ6_bitCount_0f7a4 32 = .ok (.iand, 1) := by decide +kernel
theorem dJ6_bitCount_0f7a4_33 : decode cJ6_bitCount_0f7a4 33 = .ok (.istore_n 0, 1) := by decide +kernel
theorem dJ6_bitCount_0f7a4_34 : decode cJ6_bitCount_0f7a4 34 = .ok (.iload_n 0, 1) := by decide +kernel
theorem dJ6_bitCount_0f7a4_35 : decode cJ6_bitCount_0f7a4 35 = .ok (.iload_n 0, 1) := by decide +kernel
theorem dJ6_bitCount_0f7a4_36 : decode cJ6_bitCount_0f7a4 36 = .ok (.bipush 8, 2) := by decide +kernel
theorem dJ6_bitCount_0f7a4_38 : decode cJ6_bitCount_0f7a4 38 = .ok (.iushr, 1) := by decide +kernel
theorem dJ6_bitCount_0f7a4_39 : decode cJ6_bitCount_0f7a4 39 = .ok (.iadd, 1) := by decide +kernel
theorem dJ6_bitCount_0f7a4_40 : decode cJ6_bitCount_0f7a4 40 = .ok (.istore_n 0, 1) := by decide +kernel
theorem dJ6_bitCount_0f7a4_41 : decode cJ6_bitCount_0f7a4 41 = .ok (.iload_n 0, 1) := by decide +kernel
theorem dJ6_bitCount_0f7a4_42 : decode cJ6_bitCount_0f7a4 42 = .ok (.iload_n 0, 1) := by decide +kernel
theorem dJ6_bitCount_0f7a4_43 : decode cJ6_bitCount_0f7a4 43 = .ok (.bipush 16, 2) := by decide +kernel
theorem dJ6_bitCount_0f7a4_45 : decode cJ6_bitCount_0f7a4 45 = .ok (.iushr, 1) := by decide +kernel
theorem dJ6_bitCount_0f7a4_46 : decode cJ6_bitCount_0f7a4 46 = .ok (.iadd, 1) := by decide +kernel
theorem dJ6_bitCount_0f7a4_47 : decode cJ6_bitCount_0f7a4 47 = .ok (.istore_n 0, 1) := by decide +kernel
theorem dJ6_bitCount_0f7a4_48 : decode cJ6_bitCount_0f7a4 48 = .ok (.iload_n 0, 1) := by decide +kernel
theorem dJ6_bitCount_0f7a4_49 : decode cJ6_bitCount_0f7a4 49 = .ok (.bipush 63, 2) := by decide +kernel
theorem dJ6_bitCount_0f7a4_51 : decode cJ6_bitCount_0f7a4 51 = .ok (.iand, 1) := by decide +kernel
theorem dJ6_bitCount_0f7a4_52 : decode cJ6_bitCount_0f7a4 52 = .ok (.ireturn, 1) := by decide +kernel
theorem dJ9_abs_0f7a4_0 : decode cJ9_abs_0f7a4 0 = .ok (.iload_n 0, 1) := by decide +kernel
theorem dJ9_abs_0f7a4_1 : decode cJ9_abs_0f7a4 1 = .ok (.ifCond .ge 8, 3) := by decide +kernel
theorem dJ9_abs_0f7a4_4 : decode cJ9_abs_0f7a4 4 = .ok (.iload_n 0, 1) := by decide +kernel
theorem dJ9_abs_0f7a4_5 : decode cJ9_abs_0f7a4 5 = .ok (.ineg, 1) := by decide +kernel
theorem dJ9_abs_0f7a4_6 : decode cJ9_abs_0f7a4 6 = .ok (.goto 4, 3) := by decide +kernel
theorem dJ9_abs_0f7a4_9 : decode cJ9_abs_0f7a4 9 = .ok (.iload_n 0, 1) := by decide +kernel
theorem dJ9_abs_0f7a4_10 : decode cJ9_abs_0f7a4 10 = .ok (.ireturn, 1) := by decide +kernel
theorem dJ9_max_7cf53_0 : decode cJ9_max_7cf53 0 = .ok (.iload_n 0, 1) := by decide +kernel
theorem dJ9_max_7cf53_1 : decode cJ9_max_7cf53 1 = .ok (.iload_n 1, 1) := by decide +kernel
theorem dJ9_max_7cf53_2 : decode cJ9_max_7cf53 2 = .ok (.if_icmp .lt 7, 3) := by decide +kernel
theorem dJ9_max_7cf53_5 : decode cJ9_max_7cf53 5 = .ok (.iload_n 0, 1) := by decide +kernel
theorem dJ9_max_7cf53_6 : decode cJ9_max_7cf53 6 = .ok (.goto 4, 3) := by decide +kernel
theorem dJ9_max_7cf53_9 : decode cJ9_max_7cf53 9 = .ok (.iload_n 1, 1) := by decide +kernel
theorem dJ9_max_7cf53_10 : decode cJ9_max_7cf53 10 = .ok (.ireturn, 1) := by decide +kernel
theorem dJ9_min_7cf53_0 : decode cJ9_min_7cf53 0 = .ok (.iload_n 0, 1) := by decide +kernel
theorem dJ9_min_7cf53_1 : decode cJ9_min_7cf53 1 = .ok (.iload_n 1, 1) := by decide +kernel
theorem dJ9_min_7cf53_2 : decode cJ9_min_7cf53 2 = .ok (.if_icmp .gt 7, 3) := by decide +kernel
theorem dJ9_min_7cf53_5 : decode cJ9_min_7cf53 5 = .ok (.iload_n 0, 1) := by decide +kernel
theorem dJ9_min_7cf53_6 : decode cJ9_min_7cf53 6 = .ok (.goto 4, 3) := by decide +kernel
theorem dJ9_min_7cf53_9 : decode cJ9_min_7cf53 9 = .ok (.iload_n 1, 1) := by decide +kernel
theorem dJ9_min_7cf53_10 : decode cJ9_min_7cf53 10 = .ok (.ireturn, 1) := by decide +kernel
