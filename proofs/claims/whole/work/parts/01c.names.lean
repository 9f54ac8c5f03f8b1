theorem dX5_add_25 : decode cX5_add 25 = .ok (.getfield 15, 3) := by decide +kernel
theorem dX5_add_28 : decode cX5_add 28 = .ok (.iconst 1, 1) := by decide +kernel
theorem dX5_add_29 : decode cX5_add 29 = .ok (.iadd, 1) := by decide +kernel
theorem dX5_add_30 : decode cX5_add 30 = .ok (.putfield 15, 3) := by decide +kernel
theorem dX5_add_33 : decode cX5_add 33 = .ok (.iconst 1, 1) := by decide +kernel
theorem dX5_add_34 : decode cX5_add 34 = .ok (.ireturn, 1) := by decide +kernel
theorem dX5_empty_0 : decode cX5_empty 0 = .ok (.aload_n 0, 1) := by decide +kernel
theorem dX5_empty_1 : decode cX5_empty 1 = .ok (.getfield 15, 3) := by decide +kernel
theorem dX5_empty_4 : decode cX5_empty 4 = .ok (.istore_n 1, 1) := by decide +kernel
theorem dX5_empty_5 : decode cX5_empty 5 = .ok (.aload_n 0, 1) := by decide +kernel
theorem dX5_empty_6 : decode cX5_empty 6 = .ok (.iconst 0, 1) := by decide +kernel
theorem dX5_empty_7 : decode cX5_empty 7 = .ok (.putfield 15, 3) := by decide +kernel
theorem dX5_empty_10 : decode cX5_empty 10 = .ok (.iload_n 1, 1) := by decide +kernel
theorem dX5_empty_11 : decode cX5_empty 11 = .ok (.ireturn, 1) := by decide +kernel
set_option maxRecDepth 20000 in
theorem ggX5_tell_X0_startAnew : GoodIn wsX5_tell wsX0_startAnew := goodIn_r _ [9, 10, 11, 12, 13, 14, 15, 16, 89, 90, 91, 92, 93, 94, 95, 96, 97, 98, 99, 100, 101, 102] (by decide +kernel) (by decide +kernel)
set_option maxRecDepth 20000 in
theorem gX5_tell_X0_startAnew : GoodIn wsX5_tell (wsV RX5 19 RX0 yX0_startAnew wsX0_startAnew) := goodIn_app (goodIn_of _ (by decide +kernel)) ggX5_tell_X0_startAnew
set_option maxRecDepth 20000 in
theorem ggX5_tell_X5_skipBlanks : GoodIn wsX5_tell wsX5_skipBlanks := goodIn_r _ [21, 1, 3, 22, 4, 83, 84, 85, 86, 87, 88] (by decide +kernel) (by decide +kernel)
set_option maxRecDepth 20000 in
theorem gX5_tell_X5_skipBlanks : GoodIn wsX5_tell (wsV RX5 31 RX5 yX5_skipBlanks wsX5_skipBlanks) := goodIn_app (goodIn_of _ (by decide +kernel)) ggX5_tell_X5_skipBlanks
set_option maxRecDepth 20000 in
theorem ggX5_tell_X5_tellItem : GoodIn wsX5_tell wsX5_tellItem := goodIn_r _ [26, 27, 28, 2, 29, 30, 31, 20, 32, 1, 3, 22, 17, 18, 19, 21, 4, 33, 34, 35, 36, 37, 38, 39, 40, 41, 42, 43, 44, 45, 46, 47, 48, 49, 50, 51, 52, 53, 8, 54, 10, 11, 55, 56, 57, 58, 12, 59, 60, 61, 62, 63, 64, 65, 66, 67, 68, 69, 70, 71, 72, 73, 74, 75, 13, 76, 77, 78, 79, 80, 81, 82, 89, 90, 91, 92, 93, 94, 95, 96, 97, 98, 99, 100, 101, 102, 83, 84, 85, 86, 87, 88] (by decide +kernel) (by decide +kernel)
set_option maxRecDepth 20000 in
theorem gX5_tell_X5_tellItem : GoodIn wsX5_tell (wsV RX5 34 RX5 yX5_tellItem wsX5_tellItem) := goodIn_app (goodIn_of _ (by decide +kernel)) ggX5_tell_X5_tellItem
set_option maxRecDepth 20000 in
theorem ggX5_tell_X5_readSign : GoodIn wsX5_tell wsX5_readSign := goodIn_r _ [32, 1, 3, 22, 17, 18, 19, 20, 21, 4, 83, 84, 85, 86, 87, 88] (by decide +kernel) (by decide +kernel)
set_option maxRecDepth 20000 in
theorem gX5_tell_X5_readSign : GoodIn wsX5_tell (wsV RX5 38 RX5 yX5_readSign wsX5_readSign) := goodIn_app (goodIn_of _ (by decide +kernel)) ggX5_tell_X5_readSign
theorem dX5_tell_0 : decode cX5_tell 0 = .ok (.aload_n 1, 1) := by decide +kernel
theorem dX5_tell_1 : decode cX5_tell 1 = .ok (.invokevirtual 19, 3) := by decide +kernel
theorem dX5_tell_4 : decode cX5_tell 4 = .ok (.aload_n 0, 1) := by decide +kernel
theorem dX5_tell_5 : decode cX5_tell 5 = .ok (.iconst 0, 1) := by decide +kernel
theorem dX5_tell_6 : decode cX5_tell 6 = .ok (.putfield 24, 3) := by decide +kernel
theorem dX5_tell_9 : decode cX5_tell 9 = .ok (.aload_n 0, 1) := by decide +kernel
theorem dX5_tell_10 : decode cX5_tell 10 = .ok (.iconst 0, 1) := by decide +kernel
theorem dX5_tell_11 : decode cX5_tell 11 = .ok (.putfield 27, 3) := by decide +kernel
theorem dX5_tell_14 : decode cX5_tell 14 = .ok (.iconst 0, 1) := by decide +kernel
theorem dX5_tell_15 : decode cX5_tell 15 = .ok (.istore_n 2, 1) := by decide +kernel
theorem dX5_tell_16 : decode cX5_tell 16 = .ok (.iload_n 2, 1) := by decide +kernel
theorem dX5_tell_17 : decode cX5_tell 17 = .ok (.sipush 200, 3) := by decide +kernel
theorem dX5_tell_20 : decode cX5_tell 20 = .ok (.if_icmp .gt 55, 3) := by decide +kernel
theorem dX5_tell_23 : decode cX5_tell 23 = .ok (.aload_n 0, 1) := by decide +kernel
theorem dX5_tell_24 : decode cX5_tell 24 = .ok (.invokevirtual 31, 3) := by decide +kernel
theorem dX5_tell_27 : decode cX5_tell 27 = .ok (.aload_n 0, 1) := by decide +kernel
theorem dX5_tell_28 : decode cX5_tell 28 = .ok (.getfield 24, 3) := by decide +kernel
theorem dX5_tell_31 : decode cX5_tell 31 = .ok (.aload_n 0, 1) := by decide +kernel
theorem dX5_tell_32 : decode cX5_tell 32 = .ok (.getfield 15, 3) := by decide +kernel
theorem dX5_tell_35 : decode cX5_tell 35 = .ok (.if_icmp .lt 5, 3) := by decide +kernel
theorem dX5_tell_38 : decode cX5_tell 38 = .ok (.iload_n 2, 1) := by decide +kernel
theorem dX5_tell_39 : decode cX5_tell 39 = .ok (.ireturn, 1) := by decide +kernel
theorem dX5_tell_40 : decode cX5_tell 40 = .ok (.aload_n 0, 1) := by decide +kernel
theorem dX5_tell_41 : decode cX5_tell 41 = .ok (.aload_n 1, 1) := by decide +kernel
theorem dX5_tell_42 : decode cX5_tell 42 = .ok (.iload_n 2, 1) := by decide +kernel
theorem dX5_tell_43 : decode cX5_tell 43 = .ok (.ifCond .ne 7, 3) := by decide +kernel
theorem dX5_tell_46 : decode cX5_tell 46 = .ok (.iconst 1, 1) := by decide +kernel
theorem dX5_tell_47 : decode cX5_tell 47 = .ok (.goto 4, 3) := by decide +kernel
theorem dX5_tell_50 : decode cX5_tell 50 = .ok (.iconst 0, 1) := by decide +kernel
theorem dX5_tell_51 : decode cX5_tell 51 = .ok (.invokevirtual 34, 3) := by decide +kernel
theorem dX5_tell_54 : decode cX5_tell 54 = .ok (.ifCond .eq 21, 3) := by decide +kernel
theorem dX5_tell_57 : decode cX5_tell 57 = .ok (.aload_n 0, 1) := by decide +kernel
theorem dX5_tell_58 : decode cX5_tell 58 = .ok (.bipush 59, 2) := by decide +kernel
theorem dX5_tell_60 : decode cX5_tell 60 = .ok (.invokevirtual 38, 3) := by decide +kernel
theorem dX5_tell_63 : decode cX5_tell 63 = .ok (.ifCond .ne 6, 3) := by decide +kernel
theorem dX5_tell_66 : decode cX5_tell 66 = .ok (.goto 9, 3) := by decide +kernel
theorem dX5_tell_69 : decode cX5_tell 69 = .ok (.iinc 2 1, 3) := by decide +kernel
theorem dX5_tell_72 : decode cX5_tell 72 = .ok (.goto (-56), 3) := by decide +kernel
theorem dX5_tell_75 : decode cX5_tell 75 = .ok (.bipush (-10), 2) := by decide +kernel
theorem dX5_tell_77 : decode cX5_tell 77 = .ok (.aload_n 0, 1) := by decide +kernel
theorem dX5_tell_78 : decode cX5_tell 78 = .ok (.getfield 42, 3) := by decide +kernel
theorem dX5_tell_81 : decode cX5_tell 81 = .ok (.isub, 1) := by decide +kernel
theorem dX5_tell_82 : decode cX5_tell 82 = .ok (.ireturn, 1) := by decide +kernel
set_option maxRecDepth 20000 in
theorem ggX5_tellItem_X5_readSign : GoodIn wsX5_tellItem wsX5_readSign := goodIn_r _ [8, 9, 10, 11, 12, 13, 14, 7, 15, 16, 86, 87, 88, 89, 90, 91] (by decide +kernel) (by decide +kernel)
set_option maxRecDepth 20000 in
theorem gX5_tellItem_X5_readSign : GoodIn wsX5_tellItem (wsV RX5 38 RX5 yX5_readSign wsX5_readSign) := goodIn_app (goodIn_of _ (by decide +kernel)) ggX5_tellItem_X5_readSign
set_option maxRecDepth 20000 in
theorem ggX5_tellItem_X5_tellLand : GoodIn wsX5_tellItem wsX5_tellLand := goodIn_r _ [20, 21, 22, 23, 24, 25, 26, 7, 27, 9, 10, 11, 16, 12, 13, 14, 15, 28, 29, 30, 86, 87, 88, 89, 90, 91, 72, 73, 74, 75, 76, 77, 78, 79, 80, 81, 82, 83, 84, 85] (by decide +kernel) (by decide +kernel)
set_option maxRecDepth 20000 in
theorem gX5_tellItem_X5_tellLand : GoodIn wsX5_tellItem (wsV RX5 45 RX5 yX5_tellLand wsX5_tellLand) := goodIn_app (goodIn_of _ (by decide +kernel)) ggX5_tellItem_X5_tellLand
set_option maxRecDepth 20000 in
theorem ggX5_tellItem_X5_tellTree : GoodIn wsX5_tellItem wsX5_tellTree := goodIn_r _ [34, 21, 35, 36, 37, 38, 39, 40, 41, 24, 25, 26, 7, 27, 9, 10, 11, 16, 12, 13, 14, 15, 28, 29, 30, 42, 43, 44, 45, 46, 47, 48, 49, 50, 51, 52, 53, 54, 55, 86, 87, 88, 89, 90, 91, 72, 73, 74, 75, 76, 77, 78, 79, 80, 81, 82, 83, 84, 85] (by decide +kernel) (by decide +kernel)
set_option maxRecDepth 20000 in
theorem gX5_tellItem_X5_tellTree : GoodIn wsX5_tellItem (wsV RX5 52 RX5 yX5_tellTree wsX5_tellTree) := goodIn_app (goodIn_of _ (by decide +kernel)) ggX5_tellItem_X5_tellTree
set_option maxRecDepth 20000 in
theorem ggX5_tellItem_X5_tellPerson : GoodIn wsX5_tellItem wsX5_tellPerson := goodIn_r _ [59, 21, 35, 36, 37, 38, 39, 40, 41, 24, 25, 26, 7, 27, 9, 10, 11, 16, 12, 13, 14, 15, 28, 29, 30, 60, 61, 62, 63, 64, 65, 66, 86, 87, 88, 89, 90, 91, 72, 73, 74, 75, 76, 77, 78, 79, 80, 81, 82, 83, 84, 85] (by decide +kernel) (by decide +kernel)
set_option maxRecDepth 20000 in
theorem gX5_tellItem_X5_tellPerson : GoodIn wsX5_tellItem (wsV RX5 58 RX5 yX5_tellPerson wsX5_tellPerson) := goodIn_app (goodIn_of _ (by decide +kernel)) ggX5_tellItem_X5_tellPerson
set_option maxRecDepth 20000 in
theorem ggX5_tellItem_X5_tellSun : GoodIn wsX5_tellItem wsX5_tellSun := goodIn_r _ [70, 21, 71, 3, 24, 25, 26, 7, 27, 9, 10, 11, 16, 12, 13, 14, 15, 28, 29, 30, 86, 87, 88, 89, 90, 91, 72, 73, 74, 75, 76, 77, 78, 79, 80, 81, 82, 83, 84, 85] (by decide +kernel) (by decide +kernel)
set_option maxRecDepth 20000 in
theorem gX5_tellItem_X5_tellSun : GoodIn wsX5_tellItem (wsV RX5 61 RX5 yX5_tellSun wsX5_tellSun) := goodIn_app (goodIn_of _ (by decide +kernel)) ggX5_tellItem_X5_tellSun
theorem dX5_tellItem_0 : decode cX5_tellItem 0 = .ok (.aload_n 0, 1) := by decide +kernel
theorem dX5_tellItem_1 : decode cX5_tellItem 1 = .ok (.bipush 103, 2) := by decide +kernel
theorem dX5_tellItem_3 : decode cX5_tellItem 3 = .ok (.invokevirtual 38, 3) := by decide +kernel
theorem dX5_tellItem_6 : decode cX5_tellItem 6 = .ok (.ifCond .eq 21, 3) := by decide +kernel
theorem dX5_tellItem_9 : decode cX5_tellItem 9 = .ok (.iload_n 2, 1) := by decide +kernel
theorem dX5_tellItem_10 : decode cX5_tellItem 10 = .ok (.ifCond .eq 15, 3) := by decide +kernel
theorem dX5_tellItem_13 : decode cX5_tellItem 13 = .ok (.aload_n 0, 1) := by decide +kernel
theorem dX5_tellItem_14 : decode cX5_tellItem 14 = .ok (.aload_n 1, 1) := by decide +kernel
theorem dX5_tellItem_15 : decode cX5_tellItem 15 = .ok (.invokevirtual 45, 3) := by decide +kernel
theorem dX5_tellItem_18 : decode cX5_tellItem 18 = .ok (.ifCond .eq 7, 3) := by decide +kernel
theorem dX5_tellItem_21 : decode cX5_tellItem 21 = .ok (.iconst 1, 1) := by decide +kernel
theorem dX5_tellItem_22 : decode cX5_tellItem 22 = .ok (.goto 4, 3) := by decide +kernel
theorem dX5_tellItem_25 : decode cX5_tellItem 25 = .ok (.iconst 0, 1) := by decide +kernel
theorem dX5_tellItem_26 : decode cX5_tellItem 26 = .ok (.ireturn, 1) := by decide +kernel
theorem dX5_tellItem_27 : decode cX5_tellItem 27 = .ok (.aload_n 0, 1) := by decide +kernel
theorem dX5_tellItem_28 : decode cX5_tellItem 28 = .ok (.bipush 116, 2) := by decide +kernel
theorem dX5_tellItem_30 : decode cX5_tellItem 30 = .ok (.invokevirtual 38, 3) := by decide +kernel
theorem dX5_tellItem_33 : decode cX5_tellItem 33 = .ok (.ifCond .eq 25, 3) := by decide +kernel
theorem dX5_tellItem_36 : decode cX5_tellItem 36 = .ok (.aload_n 1, 1) := by decide +kernel
theorem dX5_tellItem_37 : decode cX5_tellItem 37 = .ok (.getfield 49, 3) := by decide +kernel
theorem dX5_tellItem_40 : decode cX5_tellItem 40 = .ok (.iconst 5, 1) := by decide +kernel
theorem dX5_tellItem_41 : decode cX5_tellItem 41 = .ok (.if_icmp .ge 15, 3) := by decide +kernel
theorem dX5_tellItem_44 : decode cX5_tellItem 44 = .ok (.aload_n 0, 1) := by decide +kernel
theorem dX5_tellItem_45 : decode cX5_tellItem 45 = .ok (.aload_n 1, 1) := by decide +kernel
theorem dX5_tellItem_46 : decode cX5_tellItem 46 = .ok (.invokevirtual 52, 3) := by decide +kernel
theorem dX5_tellItem_49 : decode cX5_tellItem 49 = .ok (.ifCond .eq 7, 3) := by decide +kernel
theorem dX5_tellItem_52 : decode cX5_tellItem 52 = .ok (.iconst 1, 1) := by decide +kernel
theorem dX5_tellItem_53 : decode cX5_tellItem 53 = .ok (.goto 4, 3) := by decide +kernel
theorem dX5_tellItem_56 : decode cX5_tellItem 56 = .ok (.iconst 0, 1) := by decide +kernel
theorem dX5_tellItem_57 : decode cX5_tellItem 57 = .ok (.ireturn, 1) := by decide +kernel
theorem dX5_tellItem_58 : decode cX5_tellItem 58 = .ok (.aload_n 0, 1) := by decide +kernel
theorem dX5_tellItem_59 : decode cX5_tellItem 59 = .ok (.bipush 112, 2) := by decide +kernel
theorem dX5_tellItem_61 : decode cX5_tellItem 61 = .ok (.invokevirtual 38, 3) := by decide +kernel
theorem dX5_tellItem_64 : decode cX5_tellItem 64 = .ok (.ifCond .eq 26, 3) := by decide +kernel
theorem dX5_tellItem_67 : decode cX5_tellItem 67 = .ok (.aload_n 1, 1) := by decide +kernel
theorem dX5_tellItem_68 : decode cX5_tellItem 68 = .ok (.getfield 55, 3) := by decide +kernel
theorem dX5_tellItem_71 : decode cX5_tellItem 71 = .ok (.bipush 7, 2) := by decide +kernel
theorem dX5_tellItem_73 : decode cX5_tellItem 73 = .ok (.if_icmp .ge 15, 3) := by decide +kernel
theorem dX5_tellItem_76 : decode cX5_tellItem 76 = .ok (.aload_n 0, 1) := by decide +kernel
theorem dX5_tellItem_77 : decode cX5_tellItem 77 = .ok (.aload_n 1, 1) := by decide +kernel
theorem dX5_tellItem_78 : decode cX5_tellItem 78 = .ok (.invokevirtual 58, 3) := by decide +kernel
theorem dX5_tellItem_81 : decode cX5_tellItem 81 = .ok (.ifCond .eq 7, 3) := by decide +kernel
theorem dX5_tellItem_84 : decode cX5_tellItem 84 = .ok (.iconst 1, 1) := by decide +kernel
theorem dX5_tellItem_85 : decode cX5_tellItem 85 = .ok (.goto 4, 3) := by decide +kernel
theorem dX5_tellItem_88 : decode cX5_tellItem 88 = .ok (.iconst 0, 1) := by decide +kernel
theorem dX5_tellItem_89 : decode cX5_tellItem 89 = .ok (.ireturn, 1) := by decide +kernel
theorem dX5_tellItem_90 : decode cX5_tellItem 90 = .ok (.aload_n 0, 1) := by decide +kernel
theorem dX5_tellItem_91 : decode cX5_tellItem 91 = .ok (.bipush 115, 2) := by decide +kernel
theorem dX5_tellItem_93 : decode cX5_tellItem 93 = .ok (.invokevirtual 38, 3) := by decide +kernel
theorem dX5_tellItem_96 : decode cX5_tellItem 96 = .ok (.ifCond .eq 22, 3) := by decide +kernel
theorem dX5_tellItem_99 : decode cX5_tellItem 99 = .ok (.aload_n 0, 1) := by decide +kernel
theorem dX5_tellItem_100 : decode cX5_tellItem 100 = .ok (.getfield 27, 3) := by decide +kernel
theorem dX5_tellItem_103 : decode cX5_tellItem 103 = .ok (.ifCond .ne 15, 3) := by decide +kernel
theorem dX5_tellItem_106 : decode cX5_tellItem 106 = .ok (.aload_n 0, 1) := by decide +kernel
theorem dX5_tellItem_107 : decode cX5_tellItem 107 = .ok (.aload_n 1, 1) := by decide +kernel
theorem dX5_tellItem_108 : decode cX5_tellItem 108 = .ok (.invokevirtual 61, 3) := by decide +kernel
theorem dX5_tellItem_111 : decode cX5_tellItem 111 = .ok (.ifCond .eq 7, 3) := by decide +kernel
theorem dX5_tellItem_114 : decode cX5_tellItem 114 = .ok (.iconst 1, 1) := by decide +kernel
theorem dX5_tellItem_115 : decode cX5_tellItem 115 = .ok (.goto 4, 3) := by decide +kernel
theorem dX5_tellItem_118 : decode cX5_tellItem 118 = .ok (.iconst 0, 1) := by decide +kernel
theorem dX5_tellItem_119 : decode cX5_tellItem 119 = .ok (.ireturn, 1) := by decide +kernel
set_option maxRecDepth 20000 in
theorem ggX5_tellLand_X5_readNumber : GoodIn wsX5_tellLand wsX5_readNumber := goodIn_r _ [8, 1, 9, 10, 11, 12, 13, 14, 15, 7, 16, 17, 18, 19, 20, 21, 22, 23, 24, 25] (by decide +kernel) (by decide +kernel)
set_option maxRecDepth 20000 in
theorem gX5_tellLand_X5_readNumber : GoodIn wsX5_tellLand (wsV RX5 64 RX5 yX5_readNumber wsX5_readNumber) := goodIn_app (goodIn_of _ (by decide +kernel)) ggX5_tellLand_X5_readNumber
theorem dX5_tellLand_0 : decode cX5_tellLand 0 = .ok (.aload_n 0, 1) := by decide +kernel
theorem dX5_tellLand_1 : decode cX5_tellLand 1 = .ok (.iconst 2, 1) := by decide +kernel
theorem dX5_tellLand_2 : decode cX5_tellLand 2 = .ok (.iconst 5, 1) := by decide +kernel
theorem dX5_tellLand_3 : decode cX5_tellLand 3 = .ok (.invokevirtual 64, 3) := by decide +kernel
theorem dX5_tellLand_6 : decode cX5_tellLand 6 = .ok (.ifCond .ne 5, 3) := by decide +kernel
theorem dX5_tellLand_9 : decode cX5_tellLand 9 = .ok (.iconst 0, 1) := by decide +kernel
theorem dX5_tellLand_10 : decode cX5_tellLand 10 = .ok (.ireturn, 1) := by decide +kernel
theorem dX5_tellLand_11 : decode cX5_tellLand 11 = .ok (.aload_n 1, 1) := by decide +kernel
theorem dX5_tellLand_12 : decode cX5_tellLand 12 = .ok (.aload_n 0, 1) := by decide +kernel
theorem dX5_tellLand_13 : decode cX5_tellLand 13 = .ok (.getfield 68, 3) := by decide +kernel
theorem dX5_tellLand_16 : decode cX5_tellLand 16 = .ok (.putfield 71, 3) := by decide +kernel
theorem dX5_tellLand_19 : decode cX5_tellLand 19 = .ok (.aload_n 0, 1) := by decide +kernel
theorem dX5_tellLand_20 : decode cX5_tellLand 20 = .ok (.iconst 2, 1) := by decide +kernel
theorem dX5_tellLand_21 : decode cX5_tellLand 21 = .ok (.iconst 4, 1) := by decide +kernel
theorem dX5_tellLand_22 : decode cX5_tellLand 22 = .ok (.invokevirtual 64, 3) := by decide +kernel
theorem dX5_tellLand_25 : decode cX5_tellLand 25 = .ok (.ifCond .ne 5, 3) := by decide +kernel
theorem dX5_tellLand_28 : decode cX5_tellLand 28 = .ok (.iconst 0, 1) := by decide +kernel
theorem dX5_tellLand_29 : decode cX5_tellLand 29 = .ok (.ireturn, 1) := by decide +kernel
theorem dX5_tellLand_30 : decode cX5_tellLand 30 = .ok (.aload_n 1, 1) := by decide +kernel
theorem dX5_tellLand_31 : decode cX5_tellLand 31 = .ok (.aload_n 0, 1) := by decide +kernel
theorem dX5_tellLand_32 : decode cX5_tellLand 32 = .ok (.getfield 68, 3) := by decide +kernel
theorem dX5_tellLand_35 : decode cX5_tellLand 35 = .ok (.putfield 74, 3) := by decide +kernel
theorem dX5_tellLand_38 : decode cX5_tellLand 38 = .ok (.iconst 1, 1) := by decide +kernel
theorem dX5_tellLand_39 : decode cX5_tellLand 39 = .ok (.ireturn, 1) := by decide +kernel
set_option maxRecDepth 20000 in
theorem ggX5_tellTree_X0_cells : GoodIn wsX5_tellTree wsX0_cells := goodIn_r _ [6, 7, 8, 45, 46, 47, 48, 49, 50, 51, 52, 53, 54, 55, 56, 57, 58] (by decide +kernel) (by decide +kernel)
set_option maxRecDepth 20000 in
theorem gX5_tellTree_X0_cells : GoodIn wsX5_tellTree (wsV RX5 77 RX0 yX0_cells wsX0_cells) := goodIn_app (goodIn_of _ (by decide +kernel)) ggX5_tellTree_X0_cells
set_option maxRecDepth 20000 in
theorem ggX5_tellTree_X5_readNumber : GoodIn wsX5_tellTree wsX5_readNumber := goodIn_r _ [13, 1, 14, 15, 16, 17, 18, 19, 20, 12, 21, 22, 23, 24, 39, 40, 41, 42, 43, 44] (by decide +kernel) (by decide +kernel)
set_option maxRecDepth 20000 in
theorem gX5_tellTree_X5_readNumber : GoodIn wsX5_tellTree (wsV RX5 64 RX5 yX5_readNumber wsX5_readNumber) := goodIn_app (goodIn_of _ (by decide +kernel)) ggX5_tellTree_X5_readNumber
set_option maxRecDepth 20000 in
theorem ggX5_tellTree_X0_hasTreeAt : GoodIn wsX5_tellTree wsX0_hasTreeAt := goodIn_r _ [28, 29, 30, 45, 46, 47, 48, 49, 50, 51, 52, 53, 54, 55, 56, 57, 58] (by decide +kernel) (by decide +kernel)
set_option maxRecDepth 20000 in
theorem gX5_tellTree_X0_hasTreeAt : GoodIn wsX5_tellTree (wsV RX5 81 RX0 yX0_hasTreeAt wsX0_hasTreeAt) := goodIn_app (goodIn_of _ (by decide +kernel)) ggX5_tellTree_X0_hasTreeAt
set_option maxRecDepth 20000 in
theorem ggX5_tellTree_X0_addTree : GoodIn wsX5_tellTree wsX0_addTree := goodIn_r _ [34, 29, 30, 35, 36, 37, 38, 45, 46, 47, 48, 49, 50, 51, 52, 53, 54, 55, 56, 57, 58] (by decide +kernel) (by decide +kernel)
set_option maxRecDepth 20000 in
theorem gX5_tellTree_X0_addTree : GoodIn wsX5_tellTree (wsV RX5 85 RX0 yX0_addTree wsX0_addTree) := goodIn_app (goodIn_of _ (by decide +kernel)) ggX5_tellTree_X0_addTree
theorem dX5_tellTree_0 : decode cX5_tellTree 0 = .ok (.aload_n 0, 1) := by decide +kernel
theorem dX5_tellTree_1 : decode cX5_tellTree 1 = .ok (.iconst 0, 1) := by decide +kernel
theorem dX5_tellTree_2 : decode cX5_tellTree 2 = .ok (.aload_n 1, 1) := by decide +kernel
theorem dX5_tellTree_3 : decode cX5_tellTree 3 = .ok (.invokevirtual 77, 3) := by decide +kernel
theorem dX5_tellTree_6 : decode cX5_tellTree 6 = .ok (.iconst 1, 1) := by decide +kernel
theorem dX5_tellTree_7 : decode cX5_tellTree 7 = .ok (.isub, 1) := by decide +kernel
theorem dX5_tellTree_8 : decode cX5_tellTree 8 = .ok (.invokevirtual 64, 3) := by decide +kernel
theorem dX5_tellTree_11 : decode cX5_tellTree 11 = .ok (.ifCond .eq 14, 3) := by decide +kernel
theorem dX5_tellTree_14 : decode cX5_tellTree 14 = .ok (.aload_n 1, 1) := by decide +kernel
theorem dX5_tellTree_15 : decode cX5_tellTree 15 = .ok (.aload_n 0, 1) := by decide +kernel
theorem dX5_tellTree_16 : decode cX5_tellTree 16 = .ok (.getfield 68, 3) := by decide +kernel
theorem dX5_tellTree_19 : decode cX5_tellTree 19 = .ok (.invokevirtual 81, 3) := by decide +kernel
theorem dX5_tellTree_22 : decode cX5_tellTree 22 = .ok (.ifCond .eq 5, 3) := by decide +kernel
theorem dX5_tellTree_25 : decode cX5_tellTree 25 = .ok (.iconst 0, 1) := by decide +kernel
theorem dX5_tellTree_26 : decode cX5_tellTree 26 = .ok (.ireturn, 1) := by decide +kernel
theorem dX5_tellTree_27 : decode cX5_tellTree 27 = .ok (.aload_n 0, 1) := by decide +kernel
theorem dX5_tellTree_28 : decode cX5_tellTree 28 = .ok (.getfield 68, 3) := by decide +kernel
theorem dX5_tellTree_31 : decode cX5_tellTree 31 = .ok (.istore_n 2, 1) := by decide +kernel
theorem dX5_tellTree_32 : decode cX5_tellTree 32 = .ok (.aload_n 0, 1) := by decide +kernel
theorem dX5_tellTree_33 : decode cX5_tellTree 33 = .ok (.iconst 0, 1) := by decide +kernel
theorem dX5_tellTree_34 : decode cX5_tellTree 34 = .ok (.bipush 20, 2) := by decide +kernel
theorem dX5_tellTree_36 : decode cX5_tellTree 36 = .ok (.invokevirtual 64, 3) := by decide +kernel
theorem dX5_tellTree_39 : decode cX5_tellTree 39 = .ok (.ifCond .ne 5, 3) := by decide +kernel
theorem dX5_tellTree_42 : decode cX5_tellTree 42 = .ok (.iconst 0, 1) := by decide +kernel
theorem dX5_tellTree_43 : decode cX5_tellTree 43 = .ok (.ireturn, 1) := by decide +kernel
theorem dX5_tellTree_44 : decode cX5_tellTree 44 = .ok (.aload_n 0, 1) := by decide +kernel
theorem dX5_tellTree_45 : decode cX5_tellTree 45 = .ok (.getfield 68, 3) := by decide +kernel
theorem dX5_tellTree_48 : decode cX5_tellTree 48 = .ok (.istore_n 3, 1) := by decide +kernel
theorem dX5_tellTree_49 : decode cX5_tellTree 49 = .ok (.aload_n 0, 1) := by decide +kernel
theorem dX5_tellTree_50 : decode cX5_tellTree 50 = .ok (.iconst 0, 1) := by decide +kernel
theorem dX5_tellTree_51 : decode cX5_tellTree 51 = .ok (.iconst 1, 1) := by decide +kernel
theorem dX5_tellTree_52 : decode cX5_tellTree 52 = .ok (.invokevirtual 64, 3) := by decide +kernel
theorem dX5_tellTree_55 : decode cX5_tellTree 55 = .ok (.ifCond .ne 5, 3) := by decide +kernel
theorem dX5_tellTree_58 : decode cX5_tellTree 58 = .ok (.iconst 0, 1) := by decide +kernel
theorem dX5_tellTree_59 : decode cX5_tellTree 59 = .ok (.ireturn, 1) := by decide +kernel
theorem dX5_tellTree_60 : decode cX5_tellTree 60 = .ok (.aload_n 0, 1) := by decide +kernel
theorem dX5_tellTree_61 : decode cX5_tellTree 61 = .ok (.getfield 68, 3) := by decide +kernel
theorem dX5_tellTree_64 : decode cX5_tellTree 64 = .ok (.iconst 1, 1) := by decide +kernel
theorem dX5_tellTree_65 : decode cX5_tellTree 65 = .ok (.if_icmp .ne 7, 3) := by decide +kernel
theorem dX5_tellTree_68 : decode cX5_tellTree 68 = .ok (.iconst 1, 1) := by decide +kernel
theorem dX5_tellTree_69 : decode cX5_tellTree 69 = .ok (.goto 4, 3) := by decide +kernel
theorem dX5_tellTree_72 : decode cX5_tellTree 72 = .ok (.iconst 0, 1) := by decide +kernel
theorem dX5_tellTree_73 : decode cX5_tellTree 73 = .ok (.istore 4, 2) := by decide +kernel
theorem dX5_tellTree_75 : decode cX5_tellTree 75 = .ok (.aload_n 0, 1) := by decide +kernel
theorem dX5_tellTree_76 : decode cX5_tellTree 76 = .ok (.iconst 0, 1) := by decide +kernel
theorem dX5_tellTree_77 : decode cX5_tellTree 77 = .ok (.bipush 7, 2) := by decide +kernel
theorem dX5_tellTree_79 : decode cX5_tellTree 79 = .ok (.invokevirtual 64, 3) := by decide +kernel
theorem dX5_tellTree_82 : decode cX5_tellTree 82 = .ok (.ifCond .ne 5, 3) := by decide +kernel
theorem dX5_tellTree_85 : decode cX5_tellTree 85 = .ok (.iconst 0, 1) := by decide +kernel
theorem dX5_tellTree_86 : decode cX5_tellTree 86 = .ok (.ireturn, 1) := by decide +kernel
theorem dX5_tellTree_87 : decode cX5_tellTree 87 = .ok (.aload_n 1, 1) := by decide +kernel
theorem dX5_tellTree_88 : decode cX5_tellTree 88 = .ok (.iload_n 2, 1) := by decide +kernel
theorem dX5_tellTree_89 : decode cX5_tellTree 89 = .ok (.iload_n 3, 1) := by decide +kernel
theorem dX5_tellTree_90 : decode cX5_tellTree 90 = .ok (.iload 4, 2) := by decide +kernel
theorem dX5_tellTree_92 : decode cX5_tellTree 92 = .ok (.aload_n 0, 1) := by decide +kernel
theorem dX5_tellTree_93 : decode cX5_tellTree 93 = .ok (.getfield 68, 3) := by decide +kernel
theorem dX5_tellTree_96 : decode cX5_tellTree 96 = .ok (.invokevirtual 85, 3) := by decide +kernel
theorem dX5_tellTree_99 : decode cX5_tellTree 99 = .ok (.iconst 1, 1) := by decide +kernel
theorem dX5_tellTree_100 : decode cX5_tellTree 100 = .ok (.ireturn, 1) := by decide +kernel
set_option maxRecDepth 20000 in
theorem ggX5_tellPerson_X0_cells : GoodIn wsX5_tellPerson wsX0_cells := goodIn_r _ [6, 7, 8, 38, 39, 40, 41, 42, 43, 44, 45, 46, 47, 48, 49, 50, 51] (by decide +kernel) (by decide +kernel)
set_option maxRecDepth 20000 in
theorem gX5_tellPerson_X0_cells : GoodIn wsX5_tellPerson (wsV RX5 77 RX0 yX0_cells wsX0_cells) := goodIn_app (goodIn_of _ (by decide +kernel)) ggX5_tellPerson_X0_cells
set_option maxRecDepth 20000 in
theorem ggX5_tellPerson_X5_readNumber : GoodIn wsX5_tellPerson wsX5_readNumber := goodIn_r _ [13, 1, 14, 15, 16, 17, 18, 19, 20, 12, 21, 22, 23, 24, 32, 33, 34, 35, 36, 37] (by decide +kernel) (by decide +kernel)
set_option maxRecDepth 20000 in
theorem gX5_tellPerson_X5_readNumber : GoodIn wsX5_tellPerson (wsV RX5 64 RX5 yX5_readNumber wsX5_readNumber) := goodIn_app (goodIn_of _ (by decide +kernel)) ggX5_tellPerson_X5_readNumber
set_option maxRecDepth 20000 in
theorem ggX5_tellPerson_X0_addPerson : GoodIn wsX5_tellPerson wsX0_addPerson := goodIn_r _ [28, 29, 30, 31, 38, 39, 40, 41, 42, 43, 44, 45, 46, 47, 48, 49, 50, 51] (by decide +kernel) (by decide +kernel)
set_option maxRecDepth 20000 in
theorem gX5_tellPerson_X0_addPerson : GoodIn wsX5_tellPerson (wsV RX5 89 RX0 yX0_addPerson wsX0_addPerson) := goodIn_app (goodIn_of _ (by decide +kernel)) ggX5_tellPerson_X0_addPerson
theorem dX5_tellPerson_0 : decode cX5_tellPerson 0 = .ok (.aload_n 0, 1) := by decide +kernel
theorem dX5_tellPerson_1 : decode cX5_tellPerson 1 = .ok (.iconst 0, 1) := by decide +kernel
theorem dX5_tellPerson_2 : decode cX5_tellPerson 2 = .ok (.aload_n 1, 1) := by decide +kernel
theorem dX5_tellPerson_3 : decode cX5_tellPerson 3 = .ok (.invokevirtual 77, 3) := by decide +kernel
theorem dX5_tellPerson_6 : decode cX5_tellPerson 6 = .ok (.iconst 1, 1) := by decide +kernel
theorem dX5_tellPerson_7 : decode cX5_tellPerson 7 = .ok (.isub, 1) := by decide +kernel
theorem dX5_tellPerson_8 : decode cX5_tellPerson 8 = .ok (.invokevirtual 64, 3) := by decide +kernel
theorem dX5_tellPerson_11 : decode cX5_tellPerson 11 = .ok (.ifCond .ne 5, 3) := by decide +kernel
theorem dX5_tellPerson_14 : decode cX5_tellPerson 14 = .ok (.iconst 0, 1) := by decide +kernel
theorem dX5_tellPerson_15 : decode cX5_tellPerson 15 = .ok (.ireturn, 1) := by decide +kernel
theorem dX5_tellPerson_16 : decode cX5_tellPerson 16 = .ok (.aload_n 0, 1) := by decide +kernel
theorem dX5_tellPerson_17 : decode cX5_tellPerson 17 = .ok (.getfield 68, 3) := by decide +kernel
theorem dX5_tellPerson_20 : decode cX5_tellPerson 20 = .ok (.istore_n 2, 1) := by decide +kernel
theorem dX5_tellPerson_21 : decode cX5_tellPerson 21 = .ok (.aload_n 0, 1) := by decide +kernel
theorem dX5_tellPerson_22 : decode cX5_tellPerson 22 = .ok (.iconst 1, 1) := by decide +kernel
theorem dX5_tellPerson_23 : decode cX5_tellPerson 23 = .ok (.iconst 4, 1) := by decide +kernel
theorem dX5_tellPerson_24 : decode cX5_tellPerson 24 = .ok (.invokevirtual 64, 3) := by decide +kernel
theorem dX5_tellPerson_27 : decode cX5_tellPerson 27 = .ok (.ifCond .ne 5, 3) := by decide +kernel
theorem dX5_tellPerson_30 : decode cX5_tellPerson 30 = .ok (.iconst 0, 1) := by decide +kernel
theorem dX5_tellPerson_31 : decode cX5_tellPerson 31 = .ok (.ireturn, 1) := by decide +kernel
theorem dX5_tellPerson_32 : decode cX5_tellPerson 32 = .ok (.aload_n 1, 1) := by decide +kernel
theorem dX5_tellPerson_33 : decode cX5_tellPerson 33 = .ok (.iload_n 2, 1) := by decide +kernel
theorem dX5_tellPerson_34 : decode cX5_tellPerson 34 = .ok (.aload_n 0, 1) := by decide +kernel
theorem dX5_tellPerson_35 : decode cX5_tellPerson 35 = .ok (.getfield 68, 3) := by decide +kernel
theorem dX5_tellPerson_38 : decode cX5_tellPerson 38 = .ok (.invokevirtual 89, 3) := by decide +kernel
theorem dX5_tellPerson_41 : decode cX5_tellPerson 41 = .ok (.iconst 1, 1) := by decide +kernel
theorem dX5_tellPerson_42 : decode cX5_tellPerson 42 = .ok (.ireturn, 1) := by decide +kernel
set_option maxRecDepth 20000 in
theorem ggX5_tellSun_X5_readNumber : GoodIn wsX5_tellSun wsX5_readNumber := goodIn_r _ [8, 1, 9, 10, 11, 12, 13, 14, 15, 7, 16, 17, 18, 19, 20, 21, 22, 23, 24, 25] (by decide +kernel) (by decide +kernel)
set_option maxRecDepth 20000 in
theorem gX5_tellSun_X5_readNumber : GoodIn wsX5_tellSun (wsV RX5 64 RX5 yX5_readNumber wsX5_readNumber) := goodIn_app (goodIn_of _ (by decide +kernel)) ggX5_tellSun_X5_readNumber
theorem dX5_tellSun_0 : decode cX5_tellSun 0 = .ok (.aload_n 0, 1) := by decide +kernel
theorem dX5_tellSun_1 : decode cX5_tellSun 1 = .ok (.iconst 1, 1) := by decide +kernel
theorem dX5_tellSun_2 : decode cX5_tellSun 2 = .ok (.bipush 9, 2) := by decide +kernel
theorem dX5_tellSun_4 : decode cX5_tellSun 4 = .ok (.invokevirtual 64, 3) := by decide +kernel
theorem dX5_tellSun_7 : decode cX5_tellSun 7 = .ok (.ifCond .ne 5, 3) := by decide +kernel
theorem dX5_tellSun_10 : decode cX5_tellSun 10 = .ok (.iconst 0, 1) := by decide +kernel
theorem dX5_tellSun_11 : decode cX5_tellSun 11 = .ok (.ireturn, 1) := by decide +kernel
theorem dX5_tellSun_12 : decode cX5_tellSun 12 = .ok (.aload_n 1, 1) := by decide +kernel
theorem dX5_tellSun_13 : decode cX5_tellSun 13 = .ok (.aload_n 0, 1) := by decide +kernel
theorem dX5_tellSun_14 : decode cX5_tellSun 14 = .ok (.getfield 68, 3) := by decide +kernel
theorem dX5_tellSun_17 : decode cX5_tellSun 17 = .ok (.putfield 93, 3) := by decide +kernel
theorem dX5_tellSun_20 : decode cX5_tellSun 20 = .ok (.aload_n 0, 1) := by decide +kernel
theorem dX5_tellSun_21 : decode cX5_tellSun 21 = .ok (.iconst 1, 1) := by decide +kernel
theorem dX5_tellSun_22 : decode cX5_tellSun 22 = .ok (.putfield 27, 3) := by decide +kernel
theorem dX5_tellSun_25 : decode cX5_tellSun 25 = .ok (.iconst 1, 1) := by decide +kernel
theorem dX5_tellSun_26 : decode cX5_tellSun 26 = .ok (.ireturn, 1) := by decide +kernel
theorem dX5_skipBlanks_0 : decode cX5_skipBlanks 0 = .ok (.aload_n 0, 1) := by decide +kernel
theorem dX5_skipBlanks_1 : decode cX5_skipBlanks 1 = .ok (.getfield 24, 3) := by decide +kernel
theorem dX5_skipBlanks_4 : decode cX5_skipBlanks 4 = .ok (.aload_n 0, 1) := by decide +kernel
theorem dX5_skipBlanks_5 : decode cX5_skipBlanks 5 = .ok (.getfield 15, 3) := by decide +kernel
theorem dX5_skipBlanks_8 : decode cX5_skipBlanks 8 = .ok (.if_icmp .ge 30, 3) := by decide +kernel
theorem dX5_skipBlanks_11 : decode cX5_skipBlanks 11 = .ok (.aload_n 0, 1) := by decide +kernel
theorem dX5_skipBlanks_12 : decode cX5_skipBlanks 12 = .ok (.getfield 9, 3) := by decide +kernel
theorem dX5_skipBlanks_15 : decode cX5_skipBlanks 15 = .ok (.aload_n 0, 1) := by decide +kernel
theorem dX5_skipBlanks_16 : decode cX5_skipBlanks 16 = .ok (.getfield 24, 3) := by decide +kernel
theorem dX5_skipBlanks_19 : decode cX5_skipBlanks 19 = .ok (.caload, 1) := by decide +kernel
theorem dX5_skipBlanks_20 : decode cX5_skipBlanks 20 = .ok (.bipush 32, 2) := by decide +kernel
theorem dX5_skipBlanks_22 : decode cX5_skipBlanks 22 = .ok (.if_icmp .ne 16, 3) := by decide +kernel
theorem dX5_skipBlanks_25 : decode cX5_skipBlanks 25 = .ok (.aload_n 0, 1) := by decide +kernel
theorem dX5_skipBlanks_26 : decode cX5_skipBlanks 26 = .ok (.dup, 1) := by decide +kernel
theorem dX5_skipBlanks_27 : decode cX5_skipBlanks 27 = .ok (.getfield 24, 3) := by decide +kernel
theorem dX5_skipBlanks_30 : decode cX5_skipBlanks 30 = .ok (.iconst 1, 1) := by decide +kernel
theorem dX5_skipBlanks_31 : decode cX5_skipBlanks 31 = .ok (.iadd, 1) := by decide +kernel
theorem dX5_skipBlanks_32 : decode cX5_skipBlanks 32 = .ok (.putfield 24, 3) := by decide +kernel
theorem dX5_skipBlanks_35 : decode cX5_skipBlanks 35 = .ok (.goto (-35), 3) := by decide +kernel
theorem dX5_skipBlanks_38 : decode cX5_skipBlanks 38 = .ok (.aload_n 0, 1) := by decide +kernel
theorem dX5_skipBlanks_39 : decode cX5_skipBlanks 39 = .ok (.aload_n 0, 1) := by decide +kernel
theorem dX5_skipBlanks_40 : decode cX5_skipBlanks 40 = .ok (.getfield 24, 3) := by decide +kernel
theorem dX5_skipBlanks_43 : decode cX5_skipBlanks 43 = .ok (.putfield 42, 3) := by decide +kernel
theorem dX5_skipBlanks_46 : decode cX5_skipBlanks 46 = .ok (.return_, 1) := by decide +kernel
set_option maxRecDepth 20000 in
theorem ggX5_readSign_X5_skipBlanks : GoodIn wsX5_readSign wsX5_skipBlanks := goodIn_r _ [8, 1, 2, 3, 9, 10, 11, 12, 13, 14, 15] (by decide +kernel) (by decide +kernel)
set_option maxRecDepth 20000 in
theorem gX5_readSign_X5_skipBlanks : GoodIn wsX5_readSign (wsV RX5 31 RX5 yX5_skipBlanks wsX5_skipBlanks) := goodIn_app (goodIn_of _ (by decide +kernel)) ggX5_readSign_X5_skipBlanks
theorem dX5_readSign_0 : decode cX5_readSign 0 = .ok (.aload_n 0, 1) := by decide +kernel
theorem dX5_readSign_1 : decode cX5_readSign 1 = .ok (.invokevirtual 31, 3) := by decide +kernel
theorem dX5_readSign_4 : decode cX5_readSign 4 = .ok (.aload_n 0, 1) := by decide +kernel
theorem dX5_readSign_5 : decode cX5_readSign 5 = .ok (.getfield 24, 3) := by decide +kernel
theorem dX5_readSign_8 : decode cX5_readSign 8 = .ok (.aload_n 0, 1) := by decide +kernel
theorem dX5_readSign_9 : decode cX5_readSign 9 = .ok (.getfield 15, 3) := by decide +kernel
theorem dX5_readSign_12 : decode cX5_readSign 12 = .ok (.if_icmp .ge 16, 3) := by decide +kernel
theorem dX5_readSign_15 : decode cX5_readSign 15 = .ok (.aload_n 0, 1) := by decide +kernel
theorem dX5_readSign_16 : decode cX5_readSign 16 = .ok (.getfield 9, 3) := by decide +kernel
theorem dX5_readSign_19 : decode cX5_readSign 19 = .ok (.aload_n 0, 1) := by decide +kernel
theorem dX5_readSign_20 : decode cX5_readSign 20 = .ok (.getfield 24, 3) := by decide +kernel
theorem dX5_readSign_23 : decode cX5_readSign 23 = .ok (.caload, 1) := by decide +kernel
theorem dX5_readSign_24 : decode cX5_readSign 24 = .ok (.iload_n 1, 1) := by decide +kernel
theorem dX5_readSign_25 : decode cX5_readSign 25 = .ok (.if_icmp .eq 5, 3) := by decide +kernel
theorem dX5_readSign_28 : decode cX5_readSign 28 = .ok (.iconst 0, 1) := by decide +kernel
theorem dX5_readSign_29 : decode cX5_readSign 29 = .ok (.ireturn, 1) := by decide +kernel
theorem dX5_readSign_30 : decode cX5_readSign 30 = .ok (.aload_n 0, 1) := by decide +kernel
theorem dX5_readSign_31 : decode cX5_readSign 31 = .ok (.dup, 1) := by decide +kernel
theorem dX5_readSign_32 : decode cX5_readSign 32 = .ok (.getfield 24, 3) := by decide +kernel
theorem dX5_readSign_35 : decode cX5_readSign 35 = .ok (.iconst 1, 1) := by decide +kernel
theorem dX5_readSign_36 : decode cX5_readSign 36 = .ok (.iadd, 1) := by decide +kernel
theorem dX5_readSign_37 : decode cX5_readSign 37 = .ok (.putfield 24, 3) := by decide +kernel
theorem dX5_readSign_40 : decode cX5_readSign 40 = .ok (.iconst 1, 1) := by decide +kernel
theorem dX5_readSign_41 : decode cX5_readSign 41 = .ok (.ireturn, 1) := by decide +kernel
set_option maxRecDepth 20000 in
theorem ggX5_readNumber_X5_skipBlanks : GoodIn wsX5_readNumber wsX5_skipBlanks := goodIn_r _ [10, 2, 3, 4, 5, 14, 15, 16, 17, 18, 19] (by decide +kernel) (by decide +kernel)
set_option maxRecDepth 20000 in
theorem gX5_readNumber_X5_skipBlanks : GoodIn wsX5_readNumber (wsV RX5 31 RX5 yX5_skipBlanks wsX5_skipBlanks) := goodIn_app (goodIn_of _ (by decide +kernel)) ggX5_readNumber_X5_skipBlanks
set_option maxRecDepth 20000 in
theorem ggX5_readNumber_X6_isWithin : GoodIn wsX5_readNumber wsX6_isWithin := goodIn_r _ [13] (by decide +kernel) (by decide +kernel)
set_option maxRecDepth 20000 in
theorem gX5_readNumber_X6_isWithin_n96 : GoodIn wsX5_readNumber (wsX6_isWithin) := ggX5_readNumber_X6_isWithin
theorem dX5_readNumber_0 : decode cX5_readNumber 0 = .ok (.aload_n 0, 1) := by decide +kernel
theorem dX5_readNumber_1 : decode cX5_readNumber 1 = .ok (.invokevirtual 31, 3) := by decide +kernel
theorem dX5_readNumber_4 : decode cX5_readNumber 4 = .ok (.aload_n 0, 1) := by decide +kernel
theorem dX5_readNumber_5 : decode cX5_readNumber 5 = .ok (.iconst 0, 1) := by decide +kernel
theorem dX5_readNumber_6 : decode cX5_readNumber 6 = .ok (.putfield 68, 3) := by decide +kernel
theorem dX5_readNumber_9 : decode cX5_readNumber 9 = .ok (.aload_n 0, 1) := by decide +kernel
theorem dX5_readNumber_10 : decode cX5_readNumber 10 = .ok (.getfield 24, 3) := by decide +kernel
theorem dX5_readNumber_13 : decode cX5_readNumber 13 = .ok (.aload_n 0, 1) := by decide +kernel
theorem dX5_readNumber_14 : decode cX5_readNumber 14 = .ok (.getfield 15, 3) := by decide +kernel
theorem dX5_readNumber_17 : decode cX5_readNumber 17 = .ok (.if_icmp .ge 76, 3) := by decide +kernel
theorem dX5_readNumber_20 : decode cX5_readNumber 20 = .ok (.aload_n 0, 1) := by decide +kernel
theorem dX5_readNumber_21 : decode cX5_readNumber 21 = .ok (.getfield 9, 3) := by decide +kernel
theorem dX5_readNumber_24 : decode cX5_readNumber 24 = .ok (.aload_n 0, 1) := by decide +kernel
theorem dX5_readNumber_25 : decode cX5_readNumber 25 = .ok (.getfield 24, 3) := by decide +kernel
theorem dX5_readNumber_28 : decode cX5_readNumber 28 = .ok (.caload, 1) := by decide +kernel
theorem dX5_readNumber_29 : decode cX5_readNumber 29 = .ok (.bipush 48, 2) := by decide +kernel
theorem dX5_readNumber_31 : decode cX5_readNumber 31 = .ok (.if_icmp .lt 62, 3) := by decide +kernel
theorem dX5_readNumber_34 : decode cX5_readNumber 34 = .ok (.aload_n 0, 1) := by decide +kernel
theorem dX5_readNumber_35 : decode cX5_readNumber 35 = .ok (.getfield 9, 3) := by decide +kernel
theorem dX5_readNumber_38 : decode cX5_readNumber 38 = .ok (.aload_n 0, 1) := by decide +kernel
theorem dX5_readNumber_39 : decode cX5_readNumber 39 = .ok (.getfield 24, 3) := by decide +kernel
theorem dX5_readNumber_42 : decode cX5_readNumber 42 = .ok (.caload, 1) := by decide +kernel
theorem dX5_readNumber_43 : decode cX5_readNumber 43 = .ok (.bipush 57, 2) := by decide +kernel
theorem dX5_readNumber_45 : decode cX5_readNumber 45 = .ok (.if_icmp .gt 48, 3) := by decide +kernel
theorem dX5_readNumber_48 : decode cX5_readNumber 48 = .ok (.aload_n 0, 1) := by decide +kernel
theorem dX5_readNumber_49 : decode cX5_readNumber 49 = .ok (.getfield 68, 3) := by decide +kernel
theorem dX5_readNumber_52 : decode cX5_readNumber 52 = .ok (.iload_n 2, 1) := by decide +kernel
theorem dX5_readNumber_53 : decode cX5_readNumber 53 = .ok (.if_icmp .gt 27, 3) := by decide +kernel
theorem dX5_readNumber_56 : decode cX5_readNumber 56 = .ok (.aload_n 0, 1) := by decide +kernel
theorem dX5_readNumber_57 : decode cX5_readNumber 57 = .ok (.aload_n 0, 1) := by decide +kernel
theorem dX5_readNumber_58 : decode cX5_readNumber 58 = .ok (.getfield 68, 3) := by decide +kernel
theorem dX5_readNumber_61 : decode cX5_readNumber 61 = .ok (.bipush 10, 2) := by decide +kernel
theorem dX5_readNumber_63 : decode cX5_readNumber 63 = .ok (.imul, 1) := by decide +kernel
theorem dX5_readNumber_64 : decode cX5_readNumber 64 = .ok (.aload_n 0, 1) := by decide +kernel
theorem dX5_readNumber_65 : decode cX5_readNumber 65 = .ok (.getfield 9, 3) := by decide +kernel
theorem dX5_readNumber_68 : decode cX5_readNumber 68 = .ok (.aload_n 0, 1) := by decide +kernel
theorem dX5_readNumber_69 : decode cX5_readNumber 69 = .ok (.getfield 24, 3) := by decide +kernel
theorem dX5_readNumber_72 : decode cX5_readNumber 72 = .ok (.caload, 1) := by decide +kernel
theorem dX5_readNumber_73 : decode cX5_readNumber 73 = .ok (.iadd, 1) := by decide +kernel
theorem dX5_readNumber_74 : decode cX5_readNumber 74 = .ok (.bipush 48, 2) := by decide +kernel
theorem dX5_readNumber_76 : decode cX5_readNumber 76 = .ok (.isub, 1) := by decide +kernel
theorem dX5_readNumber_77 : decode cX5_readNumber 77 = .ok (.putfield 68, 3) := by decide +kernel
theorem dX5_readNumber_80 : decode cX5_readNumber 80 = .ok (.aload_n 0, 1) := by decide +kernel
theorem dX5_readNumber_81 : decode cX5_readNumber 81 = .ok (.dup, 1) := by decide +kernel
theorem dX5_readNumber_82 : decode cX5_readNumber 82 = .ok (.getfield 24, 3) := by decide +kernel
theorem dX5_readNumber_85 : decode cX5_readNumber 85 = .ok (.iconst 1, 1) := by decide +kernel
theorem dX5_readNumber_86 : decode cX5_readNumber 86 = .ok (.iadd, 1) := by decide +kernel
theorem dX5_readNumber_87 : decode cX5_readNumber 87 = .ok (.putfield 24, 3) := by decide +kernel
theorem dX5_readNumber_90 : decode cX5_readNumber 90 = .ok (.goto (-81), 3) := by decide +kernel
theorem dX5_readNumber_93 : decode cX5_readNumber 93 = .ok (.aload_n 0, 1) := by decide +kernel
theorem dX5_readNumber_94 : decode cX5_readNumber 94 = .ok (.getfield 24, 3) := by decide +kernel
theorem dX5_readNumber_97 : decode cX5_readNumber 97 = .ok (.aload_n 0, 1) := by decide +kernel
theorem dX5_readNumber_98 : decode cX5_readNumber 98 = .ok (.getfield 42, 3) := by decide +kernel
theorem dX5_readNumber_101 : decode cX5_readNumber 101 = .ok (.isub, 1) := by decide +kernel
theorem dX5_readNumber_102 : decode cX5_readNumber 102 = .ok (.istore_n 3, 1) := by decide +kernel
theorem dX5_readNumber_103 : decode cX5_readNumber 103 = .ok (.iload_n 3, 1) := by decide +kernel
theorem dX5_readNumber_104 : decode cX5_readNumber 104 = .ok (.iconst 1, 1) := by decide +kernel
theorem dX5_readNumber_105 : decode cX5_readNumber 105 = .ok (.if_icmp .le 21, 3) := by decide +kernel
theorem dX5_readNumber_108 : decode cX5_readNumber 108 = .ok (.aload_n 0, 1) := by decide +kernel
theorem dX5_readNumber_109 : decode cX5_readNumber 109 = .ok (.getfield 9, 3) := by decide +kernel
theorem dX5_readNumber_112 : decode cX5_readNumber 112 = .ok (.aload_n 0, 1) := by decide +kernel
theorem dX5_readNumber_113 : decode cX5_readNumber 113 = .ok (.getfield 42, 3) := by decide +kernel
theorem dX5_readNumber_116 : decode cX5_readNumber 116 = .ok (.caload, 1) := by decide +kernel
theorem dX5_readNumber_117 : decode cX5_readNumber 117 = .ok (.bipush 48, 2) := by decide +kernel
theorem dX5_readNumber_119 : decode cX5_readNumber 119 = .ok (.if_icmp .ne 7, 3) := by decide +kernel
theorem dX5_readNumber_122 : decode cX5_readNumber 122 = .ok (.iconst 1, 1) := by decide +kernel
theorem dX5_readNumber_123 : decode cX5_readNumber 123 = .ok (.goto 4, 3) := by decide +kernel
theorem dX5_readNumber_126 : decode cX5_readNumber 126 = .ok (.iconst 0, 1) := by decide +kernel
theorem dX5_readNumber_127 : decode cX5_readNumber 127 = .ok (.istore 4, 2) := by decide +kernel
theorem dX5_readNumber_129 : decode cX5_readNumber 129 = .ok (.iload_n 3, 1) := by decide +kernel
theorem dX5_readNumber_130 : decode cX5_readNumber 130 = .ok (.ifCond .le 24, 3) := by decide +kernel
theorem dX5_readNumber_133 : decode cX5_readNumber 133 = .ok (.iload 4, 2) := by decide +kernel
theorem dX5_readNumber_135 : decode cX5_readNumber 135 = .ok (.ifCond .ne 19, 3) := by decide +kernel
theorem dX5_readNumber_138 : decode cX5_readNumber 138 = .ok (.aload_n 0, 1) := by decide +kernel
theorem dX5_readNumber_139 : decode cX5_readNumber 139 = .ok (.getfield 68, 3) := by decide +kernel
theorem dX5_readNumber_142 : decode cX5_readNumber 142 = .ok (.iload_n 1, 1) := by decide +kernel
theorem dX5_readNumber_143 : decode cX5_readNumber 143 = .ok (.iload_n 2, 1) := by decide +kernel
theorem dX5_readNumber_144 : decode cX5_readNumber 144 = .ok (.invokestatic 96, 3) := by decide +kernel
theorem dX5_readNumber_147 : decode cX5_readNumber 147 = .ok (.ifCond .eq 7, 3) := by decide +kernel
theorem dX5_readNumber_150 : decode cX5_readNumber 150 = .ok (.iconst 1, 1) := by decide +kernel
theorem dX5_readNumber_151 : decode cX5_readNumber 151 = .ok (.goto 4, 3) := by decide +kernel
theorem dX5_readNumber_154 : decode cX5_readNumber 154 = .ok (.iconst 0, 1) := by decide +kernel
theorem dX5_readNumber_155 : decode cX5_readNumber 155 = .ok (.ireturn, 1) := by decide +kernel
set_option maxRecDepth 20000 in
theorem ggX6_init_X5_init : GoodIn wsX6_init wsX5_init := goodIn_r _ [33, 34, 2, 3, 35, 36, 83, 84, 85, 86, 87, 88] (by decide +kernel) (by decide +kernel)
set_option maxRecDepth 20000 in
theorem gX6_init_X5_init_n9 : GoodIn wsX6_init (wsX5_init) := ggX6_init_X5_init
set_option maxRecDepth 20000 in
theorem ggX6_init_X0_init : GoodIn wsX6_init wsX0_init := goodIn_r _ [39, 40, 2, 3, 41, 42, 43, 44, 30, 45, 46, 47, 48, 49, 50, 51, 10, 52, 53, 54, 55, 56, 57, 58, 59, 98, 99, 100, 101, 102, 103, 104, 105, 106, 107, 108, 109, 110, 111] (by decide +kernel) (by decide +kernel)
set_option maxRecDepth 20000 in
theorem gX6_init_X0_init : GoodIn wsX6_init (wsX0_init) := ggX6_init_X0_init
set_option maxRecDepth 20000 in
theorem ggX6_init_X2_init : GoodIn wsX6_init wsX2_init := goodIn_r _ [62, 63, 2, 3, 64, 65, 9, 10, 66, 38, 39, 40, 41, 42, 43, 44, 30, 45, 46, 47, 48, 49, 50, 51, 52, 53, 54, 55, 56, 57, 58, 59, 112, 113, 114, 98, 99, 100, 101, 102, 103, 104, 105, 106, 107, 108, 109, 110, 111] (by decide +kernel) (by decide +kernel)
set_option maxRecDepth 20000 in
theorem gX6_init_X2_init : GoodIn wsX6_init (wsX2_init) := ggX6_init_X2_init
set_option maxRecDepth 20000 in
theorem ggX6_init_X3_init : GoodIn wsX6_init wsX3_init := goodIn_r _ [68, 69, 2, 3, 70, 9, 10, 71, 41, 72, 73, 74, 38, 39, 40, 42, 43, 44, 30, 45, 46, 47, 48, 49, 50, 51, 52, 53, 54, 55, 56, 57, 58, 59, 98, 99, 100, 101, 102, 103, 104, 105, 106, 107, 108, 109, 110, 111, 115, 116, 117] (by decide +kernel) (by decide +kernel)
set_option maxRecDepth 20000 in
theorem gX6_init_X3_init_n35 : GoodIn wsX6_init (wsX3_init) := ggX6_init_X3_init
set_option maxRecDepth 20000 in
theorem ggX6_init_X4_init : GoodIn wsX6_init wsX4_init := goodIn_r _ [76, 77, 2, 3, 41, 78, 79, 118, 119, 120] (by decide +kernel) (by decide +kernel)
set_option maxRecDepth 20000 in
theorem gX6_init_X4_init_n42 : GoodIn wsX6_init (wsX4_init) := ggX6_init_X4_init
set_option maxRecDepth 20000 in
theorem ggX6_init_X1_init : GoodIn wsX6_init wsX1_init := goodIn_r _ [81, 82, 2, 3] (by decide +kernel) (by decide +kernel)
set_option maxRecDepth 20000 in
theorem gX6_init_X1_init_n49 : GoodIn wsX6_init (wsX1_init) := ggX6_init_X1_init
theorem dX6_init_0 : decode cX6_init 0 = .ok (.aload_n 0, 1) := by decide +kernel
theorem dX6_init_1 : decode cX6_init 1 = .ok (.invokespecial 1, 3) := by decide +kernel
theorem dX6_init_4 : decode cX6_init 4 = .ok (.aload_n 0, 1) := by decide +kernel
theorem dX6_init_5 : decode cX6_init 5 = .ok (.new 7, 3) := by decide +kernel
theorem dX6_init_8 : decode cX6_init 8 = .ok (.dup, 1) := by decide +kernel
theorem dX6_init_9 : decode cX6_init 9 = .ok (.invokespecial 9, 3) := by decide +kernel
theorem dX6_init_12 : decode cX6_init 12 = .ok (.putfield 10, 3) := by decide +kernel
theorem dX6_init_15 : decode cX6_init 15 = .ok (.aload_n 0, 1) := by decide +kernel
theorem dX6_init_16 : decode cX6_init 16 = .ok (.new 16, 3) := by decide +kernel
theorem dX6_init_19 : decode cX6_init 19 = .ok (.dup, 1) := by decide +kernel
theorem dX6_init_20 : decode cX6_init 20 = .ok (.invokespecial 18, 3) := by decide +kernel
theorem dX6_init_23 : decode cX6_init 23 = .ok (.putfield 19, 3) := by decide +kernel
theorem dX6_init_26 : decode cX6_init 26 = .ok (.aload_n 0, 1) := by decide +kernel
theorem dX6_init_27 : decode cX6_init 27 = .ok (.new 16, 3) := by decide +kernel
theorem dX6_init_30 : decode cX6_init 30 = .ok (.dup, 1) := by decide +kernel
theorem dX6_init_31 : decode cX6_init 31 = .ok (.invokespecial 18, 3) := by decide +kernel
theorem dX6_init_34 : decode cX6_init 34 = .ok (.putfield 23, 3) := by decide +kernel
theorem dX6_init_37 : decode cX6_init 37 = .ok (.aload_n 0, 1) := by decide +kernel
theorem dX6_init_38 : decode cX6_init 38 = .ok (.new 26, 3) := by decide +kernel
theorem dX6_init_41 : decode cX6_init 41 = .ok (.dup, 1) := by decide +kernel
theorem dX6_init_42 : decode cX6_init 42 = .ok (.invokespecial 28, 3) := by decide +kernel
theorem dX6_init_45 : decode cX6_init 45 = .ok (.putfield 29, 3) := by decide +kernel
theorem dX6_init_48 : decode cX6_init 48 = .ok (.aload_n 0, 1) := by decide +kernel
theorem dX6_init_49 : decode cX6_init 49 = .ok (.new 33, 3) := by decide +kernel
theorem dX6_init_52 : decode cX6_init 52 = .ok (.dup, 1) := by decide +kernel
theorem dX6_init_53 : decode cX6_init 53 = .ok (.invokespecial 35, 3) := by decide +kernel
theorem dX6_init_56 : decode cX6_init 56 = .ok (.putfield 36, 3) := by decide +kernel
theorem dX6_init_59 : decode cX6_init 59 = .ok (.aload_n 0, 1) := by decide +kernel
theorem dX6_init_60 : decode cX6_init 60 = .ok (.new 40, 3) := by decide +kernel
theorem dX6_init_63 : decode cX6_init 63 = .ok (.dup, 1) := by decide +kernel
theorem dX6_init_64 : decode cX6_init 64 = .ok (.invokespecial 42, 3) := by decide +kernel
theorem dX6_init_67 : decode cX6_init 67 = .ok (.putfield 43, 3) := by decide +kernel
theorem dX6_init_70 : decode cX6_init 70 = .ok (.aload_n 0, 1) := by decide +kernel
theorem dX6_init_71 : decode cX6_init 71 = .ok (.new 47, 3) := by decide +kernel
theorem dX6_init_74 : decode cX6_init 74 = .ok (.dup, 1) := by decide +kernel
theorem dX6_init_75 : decode cX6_init 75 = .ok (.invokespecial 49, 3) := by decide +kernel
theorem dX6_init_78 : decode cX6_init 78 = .ok (.putfield 50, 3) := by decide +kernel
theorem dX6_init_81 : decode cX6_init 81 = .ok (.aload_n 0, 1) := by decide +kernel
theorem dX6_init_82 : decode cX6_init 82 = .ok (.iconst 2, 1) := by decide +kernel
theorem dX6_init_83 : decode cX6_init 83 = .ok (.anewarray 16, 3) := by decide +kernel
theorem dX6_init_86 : decode cX6_init 86 = .ok (.putfield 54, 3) := by decide +kernel
theorem dX6_init_89 : decode cX6_init 89 = .ok (.aload_n 0, 1) := by decide +kernel
theorem dX6_init_90 : decode cX6_init 90 = .ok (.iconst 2, 1) := by decide +kernel
theorem dX6_init_91 : decode cX6_init 91 = .ok (.newarray .boolean, 2) := by decide +kernel
theorem dX6_init_93 : decode cX6_init 93 = .ok (.putfield 58, 3) := by decide +kernel
theorem dX6_init_96 : decode cX6_init 96 = .ok (.iconst 0, 1) := by decide +kernel
theorem dX6_init_97 : decode cX6_init 97 = .ok (.istore_n 1, 1) := by decide +kernel
theorem dX6_init_98 : decode cX6_init 98 = .ok (.iload_n 1, 1) := by decide +kernel
theorem dX6_init_99 : decode cX6_init 99 = .ok (.iconst 2, 1) := by decide +kernel
theorem dX6_init_100 : decode cX6_init 100 = .ok (.if_icmp .ge 22, 3) := by decide +kernel
theorem dX6_init_103 : decode cX6_init 103 = .ok (.aload_n 0, 1) := by decide +kernel
theorem dX6_init_104 : decode cX6_init 104 = .ok (.getfield 54, 3) := by decide +kernel
theorem dX6_init_107 : decode cX6_init 107 = .ok (.iload_n 1, 1) := by decide +kernel
theorem dX6_init_108 : decode cX6_init 108 = .ok (.new 16, 3) := by decide +kernel
theorem dX6_init_111 : decode cX6_init 111 = .ok (.dup, 1) := by decide +kernel
theorem dX6_init_112 : decode cX6_init 112 = .ok (.invokespecial 18, 3) := by decide +kernel
theorem dX6_init_115 : decode cX6_init 115 = .ok (.aastore, 1) := by decide +kernel
theorem dX6_init_116 : decode cX6_init 116 = .ok (.iinc 1 1, 3) := by decide +kernel
theorem dX6_init_119 : decode cX6_init 119 = .ok (.goto (-21), 3) := by decide +kernel
theorem dX6_init_122 : decode cX6_init 122 = .ok (.return_, 1) := by decide +kernel
set_option maxRecDepth 20000 in
theorem ggX6_type_X6_isWithin : GoodIn wsX6_type wsX6_isWithin := goodIn_r _ [6] (by decide +kernel) (by decide +kernel)
set_option maxRecDepth 20000 in
theorem gX6_type_X6_isWithin : GoodIn wsX6_type (va_wsS RX6 62 yX6_isWithin wsX6_isWithin) := goodIn_app (goodIn_of _ (by decide +kernel)) ggX6_type_X6_isWithin
set_option maxRecDepth 20000 in
theorem ggX6_type_X5_add : GoodIn wsX6_type wsX5_add := goodIn_r _ [11, 12, 13, 23, 24, 25, 26, 27, 28] (by decide +kernel) (by decide +kernel)
set_option maxRecDepth 20000 in
theorem gX6_type_X5_add : GoodIn wsX6_type (wsV RX6 66 RX5 yX5_add wsX5_add) := goodIn_app (goodIn_of _ (by decide +kernel)) ggX6_type_X5_add
theorem dX6_type_0 : decode cX6_type 0 = .ok (.iload_n 1, 1) := by decide +kernel
theorem dX6_type_1 : decode cX6_type 1 = .ok (.iconst 0, 1) := by decide +kernel
theorem dX6_type_2 : decode cX6_type 2 = .ok (.sipush 255, 3) := by decide +kernel
theorem dX6_type_5 : decode cX6_type 5 = .ok (.invokestatic 62, 3) := by decide +kernel
theorem dX6_type_8 : decode cX6_type 8 = .ok (.ifCond .ne 5, 3) := by decide +kernel
theorem dX6_type_11 : decode cX6_type 11 = .ok (.iconst (-1), 1) := by decide +kernel
theorem dX6_type_12 : decode cX6_type 12 = .ok (.ireturn, 1) := by decide +kernel
theorem dX6_type_13 : decode cX6_type 13 = .ok (.aload_n 0, 1) := by decide +kernel
theorem dX6_type_14 : decode cX6_type 14 = .ok (.getfield 10, 3) := by decide +kernel
theorem dX6_type_17 : decode cX6_type 17 = .ok (.iload_n 1, 1) := by decide +kernel
theorem dX6_type_18 : decode cX6_type 18 = .ok (.invokevirtual 66, 3) := by decide +kernel
theorem dX6_type_21 : decode cX6_type 21 = .ok (.ifCond .eq 13, 3) := by decide +kernel
theorem dX6_type_24 : decode cX6_type 24 = .ok (.aload_n 0, 1) := by decide +kernel
theorem dX6_type_25 : decode cX6_type 25 = .ok (.getfield 10, 3) := by decide +kernel
theorem dX6_type_28 : decode cX6_type 28 = .ok (.getfield 70, 3) := by decide +kernel
theorem dX6_type_31 : decode cX6_type 31 = .ok (.goto 5, 3) := by decide +kernel
theorem dX6_type_34 : decode cX6_type 34 = .ok (.bipush (-3), 2) := by decide +kernel
theorem dX6_type_36 : decode cX6_type 36 = .ok (.ireturn, 1) := by decide +kernel
set_option maxRecDepth 20000 in
theorem ggX6_clear_X5_empty : GoodIn wsX6_clear wsX5_empty := goodIn_r _ [6, 7, 17, 18, 19, 20, 21, 22] (by decide +kernel) (by decide +kernel)
set_option maxRecDepth 20000 in
theorem gX6_clear_X5_empty : GoodIn wsX6_clear (wsV RX6 74 RX5 yX5_empty wsX5_empty) := goodIn_app (goodIn_of _ (by decide +kernel)) ggX6_clear_X5_empty
theorem dX6_clear_0 : decode cX6_clear 0 = .ok (.aload_n 0, 1) := by decide +kernel
theorem dX6_clear_1 : decode cX6_clear 1 = .ok (.getfield 10, 3) := by decide +kernel
theorem dX6_clear_4 : decode cX6_clear 4 = .ok (.invokevirtual 74, 3) := by decide +kernel
theorem dX6_clear_7 : decode cX6_clear 7 = .ok (.ireturn, 1) := by decide +kernel
set_option maxRecDepth 20000 in
theorem ggX6_commune_X5_tell : GoodIn wsX6_commune wsX5_tell := goodIn_r _ [11, 12, 13, 14, 15, 16, 17, 18, 19, 20, 21, 22, 23, 24, 25, 26, 27, 28, 29, 30, 10, 31, 32, 33, 34, 35, 36, 37, 38, 39, 40, 41, 42, 43, 44, 45, 46, 47, 48, 49, 50, 51, 52, 53, 54, 55, 56, 57, 58, 59, 60, 61, 62, 63, 64, 65, 66, 67, 68, 69, 70, 71, 72, 73, 74, 75, 76, 77, 78, 79, 80, 81, 82, 83, 84, 85, 86, 87, 88, 89, 90, 91, 92, 122, 123, 124, 125, 126, 127, 128, 129, 130, 131, 132, 133, 134, 135, 136, 137, 138, 139, 140, 141] (by decide +kernel) (by decide +kernel)
set_option maxRecDepth 20000 in
theorem gX6_commune_X5_tell : GoodIn wsX6_commune (wsV RX6 78 RX5 yX5_tell wsX5_tell) := goodIn_app (goodIn_of _ (by decide +kernel)) ggX6_commune_X5_tell
set_option maxRecDepth 20000 in
theorem ggX6_commune_X5_empty : GoodIn wsX6_commune wsX5_empty := goodIn_r _ [96, 14, 122, 123, 124, 125, 126, 127] (by decide +kernel) (by decide +kernel)
set_option maxRecDepth 20000 in
theorem gX6_commune_X5_empty : GoodIn wsX6_commune (wsV RX6 74 RX5 yX5_empty wsX5_empty) := goodIn_app (goodIn_of _ (by decide +kernel)) ggX6_commune_X5_empty
set_option maxRecDepth 20000 in
theorem ggX6_commune_X0_become : GoodIn wsX6_commune wsX0_become := goodIn_r _ [100, 21, 22, 23, 24, 25, 26, 27, 69, 74, 75, 76, 77, 86, 87, 128, 129, 130, 131, 132, 133, 134, 135, 136, 137, 138, 139, 140, 141] (by decide +kernel) (by decide +kernel)
set_option maxRecDepth 20000 in
theorem gX6_commune_X0_become : GoodIn wsX6_commune (wsV RX6 82 RX0 yX0_become wsX0_become) := goodIn_app (goodIn_of _ (by decide +kernel)) ggX6_commune_X0_become
set_option maxRecDepth 20000 in
theorem ggX6_commune_X2_lose : GoodIn wsX6_commune wsX2_lose := goodIn_r _ [105, 106, 142, 143, 144] (by decide +kernel) (by decide +kernel)
set_option maxRecDepth 20000 in
theorem gX6_commune_X2_lose : GoodIn wsX6_commune (wsV RX6 86 RX2 yX2_lose wsX2_lose) := goodIn_app (goodIn_of _ (by decide +kernel)) ggX6_commune_X2_lose
set_option maxRecDepth 20000 in
theorem ggX6_commune_X4_empty : GoodIn wsX6_commune wsX4_empty := goodIn_r _ [111, 112, 145, 146, 147] (by decide +kernel) (by decide +kernel)
set_option maxRecDepth 20000 in
theorem gX6_commune_X4_empty : GoodIn wsX6_commune (wsV RX6 89 RX4 yX4_empty wsX4_empty) := goodIn_app (goodIn_of _ (by decide +kernel)) ggX6_commune_X4_empty
theorem dX6_commune_0 : decode cX6_commune 0 = .ok (.aload_n 0, 1) := by decide +kernel
theorem dX6_commune_1 : decode cX6_commune 1 = .ok (.getfield 10, 3) := by decide +kernel
theorem dX6_commune_4 : decode cX6_commune 4 = .ok (.aload_n 0, 1) := by decide +kernel
theorem dX6_commune_5 : decode cX6_commune 5 = .ok (.getfield 23, 3) := by decide +kernel
theorem dX6_commune_8 : decode cX6_commune 8 = .ok (.invokevirtual 78, 3) := by decide +kernel
theorem dX6_commune_11 : decode cX6_commune 11 = .ok (.istore_n 1, 1) := by decide +kernel
theorem dX6_commune_12 : decode cX6_commune 12 = .ok (.iload_n 1, 1) := by decide +kernel
theorem dX6_commune_13 : decode cX6_commune 13 = .ok (.ifCond .ge 5, 3) := by decide +kernel
theorem dX6_commune_16 : decode cX6_commune 16 = .ok (.iload_n 1, 1) := by decide +kernel
theorem dX6_commune_17 : decode cX6_commune 17 = .ok (.ireturn, 1) := by decide +kernel
theorem dX6_commune_18 : decode cX6_commune 18 = .ok (.aload_n 0, 1) := by decide +kernel
theorem dX6_commune_19 : decode cX6_commune 19 = .ok (.getfield 10, 3) := by decide +kernel
theorem dX6_commune_22 : decode cX6_commune 22 = .ok (.invokevirtual 74, 3) := by decide +kernel
theorem dX6_commune_25 : decode cX6_commune 25 = .ok (.pop, 1) := by decide +kernel
theorem dX6_commune_26 : decode cX6_commune 26 = .ok (.aload_n 0, 1) := by decide +kernel
theorem dX6_commune_27 : decode cX6_commune 27 = .ok (.getfield 19, 3) := by decide +kernel
theorem dX6_commune_30 : decode cX6_commune 30 = .ok (.aload_n 0, 1) := by decide +kernel
theorem dX6_commune_31 : decode cX6_commune 31 = .ok (.getfield 23, 3) := by decide +kernel
theorem dX6_commune_34 : decode cX6_commune 34 = .ok (.invokevirtual 82, 3) := by decide +kernel
theorem dX6_commune_37 : decode cX6_commune 37 = .ok (.aload_n 0, 1) := by decide +kernel
theorem dX6_commune_38 : decode cX6_commune 38 = .ok (.getfield 29, 3) := by decide +kernel
theorem dX6_commune_41 : decode cX6_commune 41 = .ok (.invokevirtual 86, 3) := by decide +kernel
theorem dX6_commune_44 : decode cX6_commune 44 = .ok (.aload_n 0, 1) := by decide +kernel
theorem dX6_commune_45 : decode cX6_commune 45 = .ok (.getfield 43, 3) := by decide +kernel
theorem dX6_commune_48 : decode cX6_commune 48 = .ok (.invokevirtual 89, 3) := by decide +kernel
theorem dX6_commune_51 : decode cX6_commune 51 = .ok (.pop, 1) := by decide +kernel
theorem dX6_commune_52 : decode cX6_commune 52 = .ok (.iconst 0, 1) := by decide +kernel
theorem dX6_commune_53 : decode cX6_commune 53 = .ok (.istore_n 2, 1) := by decide +kernel
theorem dX6_commune_54 : decode cX6_commune 54 = .ok (.iload_n 2, 1) := by decide +kernel
theorem dX6_commune_55 : decode cX6_commune 55 = .ok (.iconst 2, 1) := by decide +kernel
theorem dX6_commune_56 : decode cX6_commune 56 = .ok (.if_icmp .ge 16, 3) := by decide +kernel
theorem dX6_commune_59 : decode cX6_commune 59 = .ok (.aload_n 0, 1) := by decide +kernel
theorem dX6_commune_60 : decode cX6_commune 60 = .ok (.getfield 58, 3) := by decide +kernel
theorem dX6_commune_63 : decode cX6_commune 63 = .ok (.iload_n 2, 1) := by decide +kernel
theorem dX6_commune_64 : decode cX6_commune 64 = .ok (.iconst 0, 1) := by decide +kernel
theorem dX6_commune_65 : decode cX6_commune 65 = .ok (.bastore, 1) := by decide +kernel
theorem dX6_commune_66 : decode cX6_commune 66 = .ok (.iinc 2 1, 3) := by decide +kernel
theorem dX6_commune_69 : decode cX6_commune 69 = .ok (.goto (-15), 3) := by decide +kernel
theorem dX6_commune_72 : decode cX6_commune 72 = .ok (.iload_n 1, 1) := by decide +kernel
theorem dX6_commune_73 : decode cX6_commune 73 = .ok (.ireturn, 1) := by decide +kernel
set_option maxRecDepth 20000 in
theorem ggX6_tree_X0_hasTree : GoodIn wsX6_tree wsX0_hasTree := goodIn_r _ [11, 12, 13, 14, 15, 47, 48, 49, 50, 51, 52, 53, 54, 55, 56, 57, 58, 59, 60] (by decide +kernel) (by decide +kernel)
set_option maxRecDepth 20000 in
theorem gX6_tree_X0_hasTree : GoodIn wsX6_tree (wsV RX6 90 RX0 yX0_hasTree wsX0_hasTree) := goodIn_app (goodIn_of _ (by decide +kernel)) ggX6_tree_X0_hasTree
set_option maxRecDepth 20000 in
theorem ggX6_tree_X6_asNumber : GoodIn wsX6_tree wsX6_asNumber := goodIn_r _ [18] (by decide +kernel) (by decide +kernel)
set_option maxRecDepth 20000 in
theorem gX6_tree_X6_asNumber : GoodIn wsX6_tree (va_wsS RX6 103 yX6_asNumber wsX6_asNumber) := goodIn_app (goodIn_of _ (by decide +kernel)) ggX6_tree_X6_asNumber
set_option maxRecDepth 20000 in
theorem ggX6_tree_X0_shadeOf : GoodIn wsX6_tree wsX0_shadeOf := goodIn_r _ [22, 23, 24, 25, 10, 26, 27, 28, 29, 30, 31, 32, 33, 34, 35, 36, 37, 47, 48, 49, 50, 51, 52, 53, 54, 55, 56, 57, 58, 59, 60] (by decide +kernel) (by decide +kernel)
set_option maxRecDepth 20000 in
theorem gX6_tree_X0_shadeOf : GoodIn wsX6_tree (wsV RX6 110 RX0 yX0_shadeOf wsX0_shadeOf) := goodIn_app (goodIn_of _ (by decide +kernel)) ggX6_tree_X0_shadeOf
theorem dX6_tree_0 : decode cX6_tree 0 = .ok (.aload_n 0, 1) := by decide +kernel
theorem dX6_tree_1 : decode cX6_tree 1 = .ok (.getfield 19, 3) := by decide +kernel
theorem dX6_tree_4 : decode cX6_tree 4 = .ok (.iload_n 1, 1) := by decide +kernel
theorem dX6_tree_5 : decode cX6_tree 5 = .ok (.invokevirtual 90, 3) := by decide +kernel
theorem dX6_tree_8 : decode cX6_tree 8 = .ok (.ifCond .ne 5, 3) := by decide +kernel
theorem dX6_tree_11 : decode cX6_tree 11 = .ok (.iconst (-1), 1) := by decide +kernel
theorem dX6_tree_12 : decode cX6_tree 12 = .ok (.ireturn, 1) := by decide +kernel
theorem dX6_tree_13 : decode cX6_tree 13 = .ok (.iload_n 2, 1) := by decide +kernel
theorem dX6_tree_14 : decode cX6_tree 14 = .ok (.tableswitch 103 0 5 #[38, 48, 58, 71, 81, 90], 38) := by decide +kernel
theorem dX6_tree_52 : decode cX6_tree 52 = .ok (.aload_n 0, 1) := by decide +kernel
theorem dX6_tree_53 : decode cX6_tree 53 = .ok (.getfield 19, 3) := by decide +kernel
theorem dX6_tree_56 : decode cX6_tree 56 = .ok (.getfield 93, 3) := by decide +kernel
theorem dX6_tree_59 : decode cX6_tree 59 = .ok (.iload_n 1, 1) := by decide +kernel
theorem dX6_tree_60 : decode cX6_tree 60 = .ok (.iaload, 1) := by decide +kernel
theorem dX6_tree_61 : decode cX6_tree 61 = .ok (.ireturn, 1) := by decide +kernel
theorem dX6_tree_62 : decode cX6_tree 62 = .ok (.aload_n 0, 1) := by decide +kernel
theorem dX6_tree_63 : decode cX6_tree 63 = .ok (.getfield 19, 3) := by decide +kernel
theorem dX6_tree_66 : decode cX6_tree 66 = .ok (.getfield 97, 3) := by decide +kernel
theorem dX6_tree_69 : decode cX6_tree 69 = .ok (.iload_n 1, 1) := by decide +kernel
theorem dX6_tree_70 : decode cX6_tree 70 = .ok (.iaload, 1) := by decide +kernel
theorem dX6_tree_71 : decode cX6_tree 71 = .ok (.ireturn, 1) := by decide +kernel
theorem dX6_tree_72 : decode cX6_tree 72 = .ok (.aload_n 0, 1) := by decide +kernel
theorem dX6_tree_73 : decode cX6_tree 73 = .ok (.getfield 19, 3) := by decide +kernel
theorem dX6_tree_76 : decode cX6_tree 76 = .ok (.getfield 100, 3) := by decide +kernel
theorem dX6_tree_79 : decode cX6_tree 79 = .ok (.iload_n 1, 1) := by decide +kernel
theorem dX6_tree_80 : decode cX6_tree 80 = .ok (.baload, 1) := by decide +kernel
theorem dX6_tree_81 : decode cX6_tree 81 = .ok (.invokestatic 103, 3) := by decide +kernel
theorem dX6_tree_84 : decode cX6_tree 84 = .ok (.ireturn, 1) := by decide +kernel
theorem dX6_tree_85 : decode cX6_tree 85 = .ok (.aload_n 0, 1) := by decide +kernel
theorem dX6_tree_86 : decode cX6_tree 86 = .ok (.getfield 19, 3) := by decide +kernel
theorem dX6_tree_89 : decode cX6_tree 89 = .ok (.getfield 107, 3) := by decide +kernel
theorem dX6_tree_92 : decode cX6_tree 92 = .ok (.iload_n 1, 1) := by decide +kernel
theorem dX6_tree_93 : decode cX6_tree 93 = .ok (.iaload, 1) := by decide +kernel
theorem dX6_tree_94 : decode cX6_tree 94 = .ok (.ireturn, 1) := by decide +kernel
theorem dX6_tree_95 : decode cX6_tree 95 = .ok (.aload_n 0, 1) := by decide +kernel
theorem dX6_tree_96 : decode cX6_tree 96 = .ok (.getfield 19, 3) := by decide +kernel
theorem dX6_tree_99 : decode cX6_tree 99 = .ok (.iload_n 1, 1) := by decide +kernel
theorem dX6_tree_100 : decode cX6_tree 100 = .ok (.invokevirtual 110, 3) := by decide +kernel
theorem dX6_tree_103 : decode cX6_tree 103 = .ok (.ireturn, 1) := by decide +kernel
theorem dX6_tree_104 : decode cX6_tree 104 = .ok (.aload_n 0, 1) := by decide +kernel
theorem dX6_tree_105 : decode cX6_tree 105 = .ok (.getfield 19, 3) := by decide +kernel
theorem dX6_tree_108 : decode cX6_tree 108 = .ok (.getfield 114, 3) := by decide +kernel
theorem dX6_tree_111 : decode cX6_tree 111 = .ok (.iload_n 1, 1) := by decide +kernel
theorem dX6_tree_112 : decode cX6_tree 112 = .ok (.baload, 1) := by decide +kernel
theorem dX6_tree_113 : decode cX6_tree 113 = .ok (.invokestatic 103, 3) := by decide +kernel
theorem dX6_tree_116 : decode cX6_tree 116 = .ok (.ireturn, 1) := by decide +kernel
theorem dX6_tree_117 : decode cX6_tree 117 = .ok (.iconst (-1), 1) := by decide +kernel
theorem dX6_tree_118 : decode cX6_tree 118 = .ok (.ireturn, 1) := by decide +kernel
set_option maxRecDepth 20000 in
theorem ggX6_person_X0_hasPerson : GoodIn wsX6_person wsX0_hasPerson := goodIn_r _ [8, 9, 10, 11, 12, 37, 38, 39, 40, 41, 42, 43, 44, 45, 46, 47, 48, 49, 50] (by decide +kernel) (by decide +kernel)
set_option maxRecDepth 20000 in
theorem gX6_person_X0_hasPerson : GoodIn wsX6_person (wsV RX6 117 RX0 yX0_hasPerson wsX0_hasPerson) := goodIn_app (goodIn_of _ (by decide +kernel)) ggX6_person_X0_hasPerson
set_option maxRecDepth 20000 in
theorem ggX6_person_X0_treeOver : GoodIn wsX6_person wsX0_treeOver := goodIn_r _ [16, 17, 18, 19, 20, 21, 7, 22, 23, 24, 25, 26, 27, 37, 38, 39, 40, 41, 42, 43, 44, 45, 46, 47, 48, 49, 50] (by decide +kernel) (by decide +kernel)
set_option maxRecDepth 20000 in
theorem gX6_person_X0_treeOver : GoodIn wsX6_person (wsV RX6 126 RX0 yX0_treeOver wsX0_treeOver) := goodIn_app (goodIn_of _ (by decide +kernel)) ggX6_person_X0_treeOver
theorem dX6_person_0 : decode cX6_person 0 = .ok (.aload_n 0, 1) := by decide +kernel
theorem dX6_person_1 : decode cX6_person 1 = .ok (.getfield 19, 3) := by decide +kernel
theorem dX6_person_4 : decode cX6_person 4 = .ok (.iload_n 1, 1) := by decide +kernel
theorem dX6_person_5 : decode cX6_person 5 = .ok (.invokevirtual 117, 3) := by decide +kernel
theorem dX6_person_8 : decode cX6_person 8 = .ok (.ifCond .ne 5, 3) := by decide +kernel
theorem dX6_person_11 : decode cX6_person 11 = .ok (.iconst (-1), 1) := by decide +kernel
theorem dX6_person_12 : decode cX6_person 12 = .ok (.ireturn, 1) := by decide +kernel
theorem dX6_person_13 : decode cX6_person 13 = .ok (.iload_n 2, 1) := by decide +kernel
theorem dX6_person_14 : decode cX6_person 14 = .ok (.tableswitch 63 0 2 #[26, 36, 46], 26) := by decide +kernel
theorem dX6_person_40 : decode cX6_person 40 = .ok (.aload_n 0, 1) := by decide +kernel
theorem dX6_person_41 : decode cX6_person 41 = .ok (.getfield 19, 3) := by decide +kernel
theorem dX6_person_44 : decode cX6_person 44 = .ok (.getfield 120, 3) := by decide +kernel
theorem dX6_person_47 : decode cX6_person 47 = .ok (.iload_n 1, 1) := by decide +kernel
theorem dX6_person_48 : decode cX6_person 48 = .ok (.iaload, 1) := by decide +kernel
theorem dX6_person_49 : decode cX6_person 49 = .ok (.ireturn, 1) := by decide +kernel
theorem dX6_person_50 : decode cX6_person 50 = .ok (.aload_n 0, 1) := by decide +kernel
theorem dX6_person_51 : decode cX6_person 51 = .ok (.getfield 19, 3) := by decide +kernel
theorem dX6_person_54 : decode cX6_person 54 = .ok (.getfield 123, 3) := by decide +kernel
theorem dX6_person_57 : decode cX6_person 57 = .ok (.iload_n 1, 1) := by decide +kernel
theorem dX6_person_58 : decode cX6_person 58 = .ok (.iaload, 1) := by decide +kernel
theorem dX6_person_59 : decode cX6_person 59 = .ok (.ireturn, 1) := by decide +kernel
theorem dX6_person_60 : decode cX6_person 60 = .ok (.aload_n 0, 1) := by decide +kernel
theorem dX6_person_61 : decode cX6_person 61 = .ok (.getfield 19, 3) := by decide +kernel
theorem dX6_person_64 : decode cX6_person 64 = .ok (.aload_n 0, 1) := by decide +kernel
theorem dX6_person_65 : decode cX6_person 65 = .ok (.getfield 19, 3) := by decide +kernel
theorem dX6_person_68 : decode cX6_person 68 = .ok (.getfield 120, 3) := by decide +kernel
theorem dX6_person_71 : decode cX6_person 71 = .ok (.iload_n 1, 1) := by decide +kernel
theorem dX6_person_72 : decode cX6_person 72 = .ok (.iaload, 1) := by decide +kernel
theorem dX6_person_73 : decode cX6_person 73 = .ok (.invokevirtual 126, 3) := by decide +kernel
theorem dX6_person_76 : decode cX6_person 76 = .ok (.ireturn, 1) := by decide +kernel
theorem dX6_person_77 : decode cX6_person 77 = .ok (.iconst (-1), 1) := by decide +kernel
theorem dX6_person_78 : decode cX6_person 78 = .ok (.ireturn, 1) := by decide +kernel
set_option maxRecDepth 20000 in
theorem ggX6_motion_X6_isMotion : GoodIn wsX6_motion wsX6_isMotion := goodIn_r _ [5, 6, 7, 4, 8] (by decide +kernel) (by decide +kernel)
set_option maxRecDepth 20000 in
theorem gX6_motion_X6_isMotion : GoodIn wsX6_motion (va_wsS RX6 129 yX6_isMotion wsX6_isMotion) := goodIn_app (goodIn_of _ (by decide +kernel)) ggX6_motion_X6_isMotion
set_option maxRecDepth 20000 in
theorem ggX6_motion_X0_weightBehind : GoodIn wsX6_motion wsX0_weightBehind := goodIn_r _ [13, 14, 15, 16, 17, 18, 19, 12, 20, 21, 22, 23, 24, 25, 26, 27, 28, 29, 30, 31, 32, 33, 34, 35, 36, 37, 38, 39, 40, 7, 4, 8, 41, 42, 60, 61, 62, 63, 64, 65, 66, 67, 68, 69, 70, 71, 72, 73] (by decide +kernel) (by decide +kernel)
set_option maxRecDepth 20000 in
theorem gX6_motion_X0_weightBehind : GoodIn wsX6_motion (wsV RX6 132 RX0 yX0_weightBehind wsX0_weightBehind) := goodIn_app (goodIn_of _ (by decide +kernel)) ggX6_motion_X0_weightBehind
set_option maxRecDepth 20000 in
theorem ggX6_motion_X0_isCarried : GoodIn wsX6_motion wsX0_isCarried := goodIn_r _ [46, 47, 10, 11, 12, 13, 14, 15, 16, 17, 18, 19, 20, 21, 22, 23, 24, 25, 26, 27, 28, 29, 30, 31, 32, 33, 34, 35, 36, 37, 38, 39, 40, 7, 4, 8, 41, 42, 60, 61, 62, 63, 64, 65, 66, 67, 68, 69, 70, 71, 72, 73] (by decide +kernel) (by decide +kernel)
set_option maxRecDepth 20000 in
theorem gX6_motion_X0_isCarried : GoodIn wsX6_motion (wsV RX6 136 RX0 yX0_isCarried wsX0_isCarried) := goodIn_app (goodIn_of _ (by decide +kernel)) ggX6_motion_X0_isCarried
set_option maxRecDepth 20000 in
theorem ggX6_motion_X6_asNumber : GoodIn wsX6_motion wsX6_asNumber := goodIn_r _ [50] (by decide +kernel) (by decide +kernel)
set_option maxRecDepth 20000 in
theorem gX6_motion_X6_asNumber : GoodIn wsX6_motion (va_wsS RX6 103 yX6_asNumber wsX6_asNumber) := goodIn_app (goodIn_of _ (by decide +kernel)) ggX6_motion_X6_asNumber
theorem dX6_motion_0 : decode cX6_motion 0 = .ok (.iload_n 1, 1) := by decide +kernel
theorem dX6_motion_1 : decode cX6_motion 1 = .ok (.invokestatic 129, 3) := by decide +kernel
theorem dX6_motion_4 : decode cX6_motion 4 = .ok (.ifCond .ne 5, 3) := by decide +kernel
theorem dX6_motion_7 : decode cX6_motion 7 = .ok (.iconst (-1), 1) := by decide +kernel
theorem dX6_motion_8 : decode cX6_motion 8 = .ok (.ireturn, 1) := by decide +kernel
theorem dX6_motion_9 : decode cX6_motion 9 = .ok (.iload_n 2, 1) := by decide +kernel
theorem dX6_motion_10 : decode cX6_motion 10 = .ok (.tableswitch 58 0 2 #[26, 36, 46], 26) := by decide +kernel
theorem dX6_motion_36 : decode cX6_motion 36 = .ok (.aload_n 0, 1) := by decide +kernel
theorem dX6_motion_37 : decode cX6_motion 37 = .ok (.getfield 19, 3) := by decide +kernel
theorem dX6_motion_40 : decode cX6_motion 40 = .ok (.iload_n 1, 1) := by decide +kernel
theorem dX6_motion_41 : decode cX6_motion 41 = .ok (.iconst 1, 1) := by decide +kernel
theorem dX6_motion_42 : decode cX6_motion 42 = .ok (.invokevirtual 132, 3) := by decide +kernel
theorem dX6_motion_45 : decode cX6_motion 45 = .ok (.ireturn, 1) := by decide +kernel
theorem dX6_motion_46 : decode cX6_motion 46 = .ok (.aload_n 0, 1) := by decide +kernel
theorem dX6_motion_47 : decode cX6_motion 47 = .ok (.getfield 19, 3) := by decide +kernel
theorem dX6_motion_50 : decode cX6_motion 50 = .ok (.iload_n 1, 1) := by decide +kernel
theorem dX6_motion_51 : decode cX6_motion 51 = .ok (.iconst (-1), 1) := by decide +kernel
theorem dX6_motion_52 : decode cX6_motion 52 = .ok (.invokevirtual 132, 3) := by decide +kernel
theorem dX6_motion_55 : decode cX6_motion 55 = .ok (.ireturn, 1) := by decide +kernel
theorem dX6_motion_56 : decode cX6_motion 56 = .ok (.aload_n 0, 1) := by decide +kernel
theorem dX6_motion_57 : decode cX6_motion 57 = .ok (.getfield 19, 3) := by decide +kernel
theorem dX6_motion_60 : decode cX6_motion 60 = .ok (.iload_n 1, 1) := by decide +kernel
theorem dX6_motion_61 : decode cX6_motion 61 = .ok (.invokevirtual 136, 3) := by decide +kernel
theorem dX6_motion_64 : decode cX6_motion 64 = .ok (.invokestatic 103, 3) := by decide +kernel
theorem dX6_motion_67 : decode cX6_motion 67 = .ok (.ireturn, 1) := by decide +kernel
theorem dX6_motion_68 : decode cX6_motion 68 = .ok (.iconst (-1), 1) := by decide +kernel
theorem dX6_motion_69 : decode cX6_motion 69 = .ok (.ireturn, 1) := by decide +kernel
set_option maxRecDepth 20000 in
theorem ggX6_now_X6_asNumber : GoodIn wsX6_now wsX6_asNumber := goodIn_r _ [11] (by decide +kernel) (by decide +kernel)
set_option maxRecDepth 20000 in
theorem gX6_now_X6_asNumber : GoodIn wsX6_now (va_wsS RX6 103 yX6_asNumber wsX6_asNumber) := goodIn_app (goodIn_of _ (by decide +kernel)) ggX6_now_X6_asNumber
theorem dX6_now_0 : decode cX6_now 0 = .ok (.iload_n 1, 1) := by decide +kernel
theorem dX6_now_1 : decode cX6_now 1 = .ok (.tableswitch 78 0 4 #[35, 43, 51, 62, 70], 35) := by decide +kernel
theorem dX6_now_36 : decode cX6_now 36 = .ok (.aload_n 0, 1) := by decide +kernel
theorem dX6_now_37 : decode cX6_now 37 = .ok (.getfield 19, 3) := by decide +kernel
theorem dX6_now_40 : decode cX6_now 40 = .ok (.getfield 139, 3) := by decide +kernel
theorem dX6_now_43 : decode cX6_now 43 = .ok (.ireturn, 1) := by decide +kernel
theorem dX6_now_44 : decode cX6_now 44 = .ok (.aload_n 0, 1) := by decide +kernel
theorem dX6_now_45 : decode cX6_now 45 = .ok (.getfield 19, 3) := by decide +kernel
theorem dX6_now_48 : decode cX6_now 48 = .ok (.getfield 142, 3) := by decide +kernel
theorem dX6_now_51 : decode cX6_now 51 = .ok (.ireturn, 1) := by decide +kernel
theorem dX6_now_52 : decode cX6_now 52 = .ok (.aload_n 0, 1) := by decide +kernel
theorem dX6_now_53 : decode cX6_now 53 = .ok (.getfield 19, 3) := by decide +kernel
theorem dX6_now_56 : decode cX6_now 56 = .ok (.getfield 145, 3) := by decide +kernel
theorem dX6_now_59 : decode cX6_now 59 = .ok (.invokestatic 103, 3) := by decide +kernel
theorem dX6_now_62 : decode cX6_now 62 = .ok (.ireturn, 1) := by decide +kernel
theorem dX6_now_63 : decode cX6_now 63 = .ok (.aload_n 0, 1) := by decide +kernel
theorem dX6_now_64 : decode cX6_now 64 = .ok (.getfield 19, 3) := by decide +kernel
theorem dX6_now_67 : decode cX6_now 67 = .ok (.getfield 149, 3) := by decide +kernel
theorem dX6_now_70 : decode cX6_now 70 = .ok (.ireturn, 1) := by decide +kernel
theorem dX6_now_71 : decode cX6_now 71 = .ok (.aload_n 0, 1) := by decide +kernel
theorem dX6_now_72 : decode cX6_now 72 = .ok (.getfield 29, 3) := by decide +kernel
theorem dX6_now_75 : decode cX6_now 75 = .ok (.getfield 152, 3) := by decide +kernel
theorem dX6_now_78 : decode cX6_now 78 = .ok (.ireturn, 1) := by decide +kernel
theorem dX6_now_79 : decode cX6_now 79 = .ok (.iconst (-1), 1) := by decide +kernel
theorem dX6_now_80 : decode cX6_now 80 = .ok (.ireturn, 1) := by decide +kernel
set_option maxRecDepth 20000 in
theorem ggX6_moves_X0_hasPerson : GoodIn wsX6_moves wsX0_hasPerson := goodIn_r _ [8, 9, 10, 11, 12, 64, 65, 66, 67, 68, 69, 70, 71, 72, 73, 74, 75, 76, 77] (by decide +kernel) (by decide +kernel)
set_option maxRecDepth 20000 in
theorem gX6_moves_X0_hasPerson : GoodIn wsX6_moves (wsV RX6 117 RX0 yX0_hasPerson wsX0_hasPerson) := goodIn_app (goodIn_of _ (by decide +kernel)) ggX6_moves_X0_hasPerson
set_option maxRecDepth 20000 in
theorem ggX6_moves_X6_isWithin : GoodIn wsX6_moves wsX6_isWithin := goodIn_r _ [12] (by decide +kernel) (by decide +kernel)
set_option maxRecDepth 20000 in
theorem gX6_moves_X6_isWithin : GoodIn wsX6_moves (va_wsS RX6 62 yX6_isWithin wsX6_isWithin) := goodIn_app (goodIn_of _ (by decide +kernel)) ggX6_moves_X6_isWithin
set_option maxRecDepth 20000 in
theorem ggX6_moves_X0_neighbour : GoodIn wsX6_moves wsX0_neighbour := goodIn_r _ [17, 18, 19, 20, 21, 22, 7, 23, 24, 25, 26, 27, 64, 65, 66, 67, 68, 69, 70, 71, 72, 73, 74, 75, 76, 77] (by decide +kernel) (by decide +kernel)
set_option maxRecDepth 20000 in
theorem gX6_moves_X0_neighbour : GoodIn wsX6_moves (wsV RX6 155 RX0 yX0_neighbour wsX0_neighbour) := goodIn_app (goodIn_of _ (by decide +kernel)) ggX6_moves_X0_neighbour
set_option maxRecDepth 20000 in
theorem ggX6_moves_X2_remember : GoodIn wsX6_moves wsX2_remember := goodIn_r _ [32, 33, 34, 35, 36, 37, 38, 39, 40, 41, 42, 7, 43, 18, 19, 44, 9, 45, 46, 47, 48, 49, 50, 51, 52, 53, 54, 78, 79, 80, 64, 65, 66, 67, 68, 69, 70, 71, 72, 73, 74, 75, 76, 77] (by decide +kernel) (by decide +kernel)
set_option maxRecDepth 20000 in
theorem gX6_moves_X2_remember : GoodIn wsX6_moves (wsV RX6 158 RX2 yX2_remember wsX2_remember) := goodIn_app (goodIn_of _ (by decide +kernel)) ggX6_moves_X2_remember
theorem dX6_moves_0 : decode cX6_moves 0 = .ok (.aload_n 0, 1) := by decide +kernel
theorem dX6_moves_1 : decode cX6_moves 1 = .ok (.getfield 19, 3) := by decide +kernel
theorem dX6_moves_4 : decode cX6_moves 4 = .ok (.iload_n 1, 1) := by decide +kernel
theorem dX6_moves_5 : decode cX6_moves 5 = .ok (.invokevirtual 117, 3) := by decide +kernel
theorem dX6_moves_8 : decode cX6_moves 8 = .ok (.ifCond .eq 12, 3) := by decide +kernel
theorem dX6_moves_11 : decode cX6_moves 11 = .ok (.iload_n 2, 1) := by decide +kernel
theorem dX6_moves_12 : decode cX6_moves 12 = .ok (.iconst 0, 1) := by decide +kernel
theorem dX6_moves_13 : decode cX6_moves 13 = .ok (.iconst 3, 1) := by decide +kernel
theorem dX6_moves_14 : decode cX6_moves 14 = .ok (.invokestatic 62, 3) := by decide +kernel
theorem dX6_moves_17 : decode cX6_moves 17 = .ok (.ifCond .ne 5, 3) := by decide +kernel
theorem dX6_moves_20 : decode cX6_moves 20 = .ok (.iconst (-1), 1) := by decide +kernel
theorem dX6_moves_21 : decode cX6_moves 21 = .ok (.ireturn, 1) := by decide +kernel
theorem dX6_moves_22 : decode cX6_moves 22 = .ok (.aload_n 0, 1) := by decide +kernel
theorem dX6_moves_23 : decode cX6_moves 23 = .ok (.getfield 19, 3) := by decide +kernel
theorem dX6_moves_26 : decode cX6_moves 26 = .ok (.aload_n 0, 1) := by decide +kernel
theorem dX6_moves_27 : decode cX6_moves 27 = .ok (.getfield 19, 3) := by decide +kernel
theorem dX6_moves_30 : decode cX6_moves 30 = .ok (.getfield 120, 3) := by decide +kernel
theorem dX6_moves_33 : decode cX6_moves 33 = .ok (.iload_n 1, 1) := by decide +kernel
theorem dX6_moves_34 : decode cX6_moves 34 = .ok (.iaload, 1) := by decide +kernel
theorem dX6_moves_35 : decode cX6_moves 35 = .ok (.iload_n 2, 1) := by decide +kernel
theorem dX6_moves_36 : decode cX6_moves 36 = .ok (.invokevirtual 155, 3) := by decide +kernel
theorem dX6_moves_39 : decode cX6_moves 39 = .ok (.istore_n 3, 1) := by decide +kernel
theorem dX6_moves_40 : decode cX6_moves 40 = .ok (.iload_n 3, 1) := by decide +kernel
theorem dX6_moves_41 : decode cX6_moves 41 = .ok (.bipush (-9), 2) := by decide +kernel
theorem dX6_moves_43 : decode cX6_moves 43 = .ok (.if_icmp .ne 6, 3) := by decide +kernel
theorem dX6_moves_46 : decode cX6_moves 46 = .ok (.bipush (-2), 2) := by decide +kernel
theorem dX6_moves_48 : decode cX6_moves 48 = .ok (.ireturn, 1) := by decide +kernel
theorem dX6_moves_49 : decode cX6_moves 49 = .ok (.aload_n 0, 1) := by decide +kernel
theorem dX6_moves_50 : decode cX6_moves 50 = .ok (.getfield 29, 3) := by decide +kernel
theorem dX6_moves_53 : decode cX6_moves 53 = .ok (.aload_n 0, 1) := by decide +kernel
theorem dX6_moves_54 : decode cX6_moves 54 = .ok (.getfield 19, 3) := by decide +kernel
theorem dX6_moves_57 : decode cX6_moves 57 = .ok (.invokevirtual 158, 3) := by decide +kernel
theorem dX6_moves_60 : decode cX6_moves 60 = .ok (.aload_n 0, 1) := by decide +kernel
theorem dX6_moves_61 : decode cX6_moves 61 = .ok (.getfield 19, 3) := by decide +kernel
theorem dX6_moves_64 : decode cX6_moves 64 = .ok (.getfield 120, 3) := by decide +kernel
theorem dX6_moves_67 : decode cX6_moves 67 = .ok (.iload_n 1, 1) := by decide +kernel
theorem dX6_moves_68 : decode cX6_moves 68 = .ok (.iload_n 3, 1) := by decide +kernel
theorem dX6_moves_69 : decode cX6_moves 69 = .ok (.iastore, 1) := by decide +kernel
theorem dX6_moves_70 : decode cX6_moves 70 = .ok (.iload_n 3, 1) := by decide +kernel
theorem dX6_moves_71 : decode cX6_moves 71 = .ok (.ireturn, 1) := by decide +kernel
set_option maxRecDepth 20000 in
theorem ggX6_prunes_X0_hasTree : GoodIn wsX6_prunes wsX0_hasTree := goodIn_r _ [8, 9, 10, 11, 12, 59, 60, 61, 62, 63, 64, 65, 66, 67, 68, 69, 70, 71, 72] (by decide +kernel) (by decide +kernel)
set_option maxRecDepth 20000 in
theorem gX6_prunes_X0_hasTree : GoodIn wsX6_prunes (wsV RX6 90 RX0 yX0_hasTree wsX0_hasTree) := goodIn_app (goodIn_of _ (by decide +kernel)) ggX6_prunes_X0_hasTree
set_option maxRecDepth 20000 in
theorem ggX6_prunes_X6_isWithin : GoodIn wsX6_prunes wsX6_isWithin := goodIn_r _ [12] (by decide +kernel) (by decide +kernel)
set_option maxRecDepth 20000 in
theorem gX6_prunes_X6_isWithin : GoodIn wsX6_prunes (va_wsS RX6 62 yX6_isWithin wsX6_isWithin) := goodIn_app (goodIn_of _ (by decide +kernel)) ggX6_prunes_X6_isWithin
set_option maxRecDepth 20000 in
theorem ggX6_prunes_X2_remember : GoodIn wsX6_prunes wsX2_remember := goodIn_r _ [18, 19, 20, 21, 22, 23, 24, 25, 26, 27, 28, 7, 29, 30, 31, 9, 32, 33, 34, 35, 36, 37, 38, 39, 40, 41, 42, 73, 74, 75, 59, 60, 61, 62, 63, 64, 65, 66, 67, 68, 69, 70, 71, 72] (by decide +kernel) (by decide +kernel)
set_option maxRecDepth 20000 in
theorem gX6_prunes_X2_remember : GoodIn wsX6_prunes (wsV RX6 158 RX2 yX2_remember wsX2_remember) := goodIn_app (goodIn_of _ (by decide +kernel)) ggX6_prunes_X2_remember
set_option maxRecDepth 20000 in
theorem ggX6_prunes_X0_lower : GoodIn wsX6_prunes wsX0_lower := goodIn_r _ [46, 37, 47, 48, 24, 49, 59, 60, 61, 62, 63, 64, 65, 66, 67, 68, 69, 70, 71, 72] (by decide +kernel) (by decide +kernel)
set_option maxRecDepth 20000 in
theorem gX6_prunes_X0_lower : GoodIn wsX6_prunes (wsV RX6 161 RX0 yX0_lower wsX0_lower) := goodIn_app (goodIn_of _ (by decide +kernel)) ggX6_prunes_X0_lower
theorem dX6_prunes_0 : decode cX6_prunes 0 = .ok (.aload_n 0, 1) := by decide +kernel
theorem dX6_prunes_1 : decode cX6_prunes 1 = .ok (.getfield 19, 3) := by decide +kernel
theorem dX6_prunes_4 : decode cX6_prunes 4 = .ok (.iload_n 1, 1) := by decide +kernel
theorem dX6_prunes_5 : decode cX6_prunes 5 = .ok (.invokevirtual 90, 3) := by decide +kernel
theorem dX6_prunes_8 : decode cX6_prunes 8 = .ok (.ifCond .eq 13, 3) := by decide +kernel
theorem dX6_prunes_11 : decode cX6_prunes 11 = .ok (.iload_n 2, 1) := by decide +kernel
theorem dX6_prunes_12 : decode cX6_prunes 12 = .ok (.iconst 1, 1) := by decide +kernel
theorem dX6_prunes_13 : decode cX6_prunes 13 = .ok (.bipush 20, 2) := by decide +kernel
theorem dX6_prunes_15 : decode cX6_prunes 15 = .ok (.invokestatic 62, 3) := by decide +kernel
theorem dX6_prunes_18 : decode cX6_prunes 18 = .ok (.ifCond .ne 5, 3) := by decide +kernel
theorem dX6_prunes_21 : decode cX6_prunes 21 = .ok (.iconst (-1), 1) := by decide +kernel
theorem dX6_prunes_22 : decode cX6_prunes 22 = .ok (.ireturn, 1) := by decide +kernel
theorem dX6_prunes_23 : decode cX6_prunes 23 = .ok (.aload_n 0, 1) := by decide +kernel
theorem dX6_prunes_24 : decode cX6_prunes 24 = .ok (.getfield 29, 3) := by decide +kernel
theorem dX6_prunes_27 : decode cX6_prunes 27 = .ok (.aload_n 0, 1) := by decide +kernel
theorem dX6_prunes_28 : decode cX6_prunes 28 = .ok (.getfield 19, 3) := by decide +kernel
theorem dX6_prunes_31 : decode cX6_prunes 31 = .ok (.invokevirtual 158, 3) := by decide +kernel
theorem dX6_prunes_34 : decode cX6_prunes 34 = .ok (.aload_n 0, 1) := by decide +kernel
theorem dX6_prunes_35 : decode cX6_prunes 35 = .ok (.getfield 19, 3) := by decide +kernel
theorem dX6_prunes_38 : decode cX6_prunes 38 = .ok (.iload_n 1, 1) := by decide +kernel
theorem dX6_prunes_39 : decode cX6_prunes 39 = .ok (.iload_n 2, 1) := by decide +kernel
theorem dX6_prunes_40 : decode cX6_prunes 40 = .ok (.invokevirtual 161, 3) := by decide +kernel
theorem dX6_prunes_43 : decode cX6_prunes 43 = .ok (.aload_n 0, 1) := by decide +kernel
theorem dX6_prunes_44 : decode cX6_prunes 44 = .ok (.getfield 19, 3) := by decide +kernel
theorem dX6_prunes_47 : decode cX6_prunes 47 = .ok (.getfield 97, 3) := by decide +kernel
theorem dX6_prunes_50 : decode cX6_prunes 50 = .ok (.iload_n 1, 1) := by decide +kernel
theorem dX6_prunes_51 : decode cX6_prunes 51 = .ok (.iaload, 1) := by decide +kernel
theorem dX6_prunes_52 : decode cX6_prunes 52 = .ok (.ireturn, 1) := by decide +kernel
set_option maxRecDepth 20000 in
theorem ggX6_grows_X2_remember : GoodIn wsX6_grows wsX2_remember := goodIn_r _ [8, 9, 10, 11, 12, 13, 14, 15, 16, 17, 18, 19, 20, 21, 22, 23, 24, 25, 26, 27, 28, 29, 30, 31, 32, 33, 34, 63, 64, 65, 49, 50, 51, 52, 53, 54, 55, 56, 57, 58, 59, 60, 61, 62] (by decide +kernel) (by decide +kernel)
set_option maxRecDepth 20000 in
theorem gX6_grows_X2_remember : GoodIn wsX6_grows (wsV RX6 158 RX2 yX2_remember wsX2_remember) := goodIn_app (goodIn_of _ (by decide +kernel)) ggX6_grows_X2_remember
set_option maxRecDepth 20000 in
theorem ggX6_grows_X0_growAll : GoodIn wsX6_grows wsX0_growAll := goodIn_r _ [38, 23, 32, 29, 39, 13, 14, 15, 49, 50, 51, 52, 53, 54, 55, 56, 57, 58, 59, 60, 61, 62] (by decide +kernel) (by decide +kernel)
set_option maxRecDepth 20000 in
theorem gX6_grows_X0_growAll : GoodIn wsX6_grows (wsV RX6 165 RX0 yX0_growAll wsX0_growAll) := goodIn_app (goodIn_of _ (by decide +kernel)) ggX6_grows_X0_growAll
theorem dX6_grows_0 : decode cX6_grows 0 = .ok (.aload_n 0, 1) := by decide +kernel
theorem dX6_grows_1 : decode cX6_grows 1 = .ok (.getfield 19, 3) := by decide +kernel
theorem dX6_grows_4 : decode cX6_grows 4 = .ok (.getfield 139, 3) := by decide +kernel
theorem dX6_grows_7 : decode cX6_grows 7 = .ok (.sipush 999, 3) := by decide +kernel
theorem dX6_grows_10 : decode cX6_grows 10 = .ok (.if_icmp .lt 6, 3) := by decide +kernel
theorem dX6_grows_13 : decode cX6_grows 13 = .ok (.bipush (-2), 2) := by decide +kernel
theorem dX6_grows_15 : decode cX6_grows 15 = .ok (.ireturn, 1) := by decide +kernel
theorem dX6_grows_16 : decode cX6_grows 16 = .ok (.aload_n 0, 1) := by decide +kernel
theorem dX6_grows_17 : decode cX6_grows 17 = .ok (.getfield 29, 3) := by decide +kernel
theorem dX6_grows_20 : decode cX6_grows 20 = .ok (.aload_n 0, 1) := by decide +kernel
theorem dX6_grows_21 : decode cX6_grows 21 = .ok (.getfield 19, 3) := by decide +kernel
theorem dX6_grows_24 : decode cX6_grows 24 = .ok (.invokevirtual 158, 3) := by decide +kernel
theorem dX6_grows_27 : decode cX6_grows 27 = .ok (.aload_n 0, 1) := by decide +kernel
theorem dX6_grows_28 : decode cX6_grows 28 = .ok (.getfield 19, 3) := by decide +kernel
theorem dX6_grows_31 : decode cX6_grows 31 = .ok (.invokevirtual 165, 3) := by decide +kernel
theorem dX6_grows_34 : decode cX6_grows 34 = .ok (.aload_n 0, 1) := by decide +kernel
theorem dX6_grows_35 : decode cX6_grows 35 = .ok (.getfield 19, 3) := by decide +kernel
theorem dX6_grows_38 : decode cX6_grows 38 = .ok (.dup, 1) := by decide +kernel
theorem dX6_grows_39 : decode cX6_grows 39 = .ok (.getfield 139, 3) := by decide +kernel
theorem dX6_grows_42 : decode cX6_grows 42 = .ok (.iconst 1, 1) := by decide +kernel
theorem dX6_grows_43 : decode cX6_grows 43 = .ok (.iadd, 1) := by decide +kernel
theorem dX6_grows_44 : decode cX6_grows 44 = .ok (.putfield 139, 3) := by decide +kernel
theorem dX6_grows_47 : decode cX6_grows 47 = .ok (.aload_n 0, 1) := by decide +kernel
theorem dX6_grows_48 : decode cX6_grows 48 = .ok (.getfield 19, 3) := by decide +kernel
theorem dX6_grows_51 : decode cX6_grows 51 = .ok (.getfield 139, 3) := by decide +kernel
theorem dX6_grows_54 : decode cX6_grows 54 = .ok (.ireturn, 1) := by decide +kernel
set_option maxRecDepth 20000 in
theorem ggX6_plants_X0_hasCell : GoodIn wsX6_plants wsX0_hasCell := goodIn_r _ [8, 9, 10, 11, 7, 12, 13, 14, 15, 16, 17, 64, 65, 66, 67, 68, 69, 70, 71, 72, 73, 74, 75, 76, 77] (by decide +kernel) (by decide +kernel)
set_option maxRecDepth 20000 in
theorem gX6_plants_X0_hasCell : GoodIn wsX6_plants (wsV RX6 168 RX0 yX0_hasCell wsX0_hasCell) := goodIn_app (goodIn_of _ (by decide +kernel)) ggX6_plants_X0_hasCell
set_option maxRecDepth 20000 in
theorem ggX6_plants_X6_isWithin : GoodIn wsX6_plants wsX6_isWithin := goodIn_r _ [17] (by decide +kernel) (by decide +kernel)
set_option maxRecDepth 20000 in
theorem gX6_plants_X6_isWithin : GoodIn wsX6_plants (va_wsS RX6 62 yX6_isWithin wsX6_isWithin) := goodIn_app (goodIn_of _ (by decide +kernel)) ggX6_plants_X6_isWithin
set_option maxRecDepth 20000 in
theorem ggX6_plants_X0_hasTreeAt : GoodIn wsX6_plants wsX0_hasTreeAt := goodIn_r _ [22, 23, 24, 64, 65, 66, 67, 68, 69, 70, 71, 72, 73, 74, 75, 76, 77] (by decide +kernel) (by decide +kernel)
set_option maxRecDepth 20000 in
theorem gX6_plants_X0_hasTreeAt : GoodIn wsX6_plants (wsV RX6 171 RX0 yX0_hasTreeAt wsX0_hasTreeAt) := goodIn_app (goodIn_of _ (by decide +kernel)) ggX6_plants_X0_hasTreeAt
set_option maxRecDepth 20000 in
theorem ggX6_plants_X2_remember : GoodIn wsX6_plants wsX2_remember := goodIn_r _ [29, 30, 31, 32, 33, 34, 35, 36, 37, 38, 39, 7, 40, 13, 14, 23, 41, 42, 43, 44, 24, 45, 46, 47, 48, 49, 50, 78, 79, 80, 64, 65, 66, 67, 68, 69, 70, 71, 72, 73, 74, 75, 76, 77] (by decide +kernel) (by decide +kernel)
set_option maxRecDepth 20000 in
theorem gX6_plants_X2_remember : GoodIn wsX6_plants (wsV RX6 158 RX2 yX2_remember wsX2_remember) := goodIn_app (goodIn_of _ (by decide +kernel)) ggX6_plants_X2_remember
set_option maxRecDepth 20000 in
theorem ggX6_plants_X0_addTree : GoodIn wsX6_plants wsX0_addTree := goodIn_r _ [54, 23, 24, 45, 46, 47, 48, 64, 65, 66, 67, 68, 69, 70, 71, 72, 73, 74, 75, 76, 77] (by decide +kernel) (by decide +kernel)
set_option maxRecDepth 20000 in
theorem gX6_plants_X0_addTree : GoodIn wsX6_plants (wsV RX6 174 RX0 yX0_addTree wsX0_addTree) := goodIn_app (goodIn_of _ (by decide +kernel)) ggX6_plants_X0_addTree
theorem dX6_plants_0 : decode cX6_plants 0 = .ok (.aload_n 0, 1) := by decide +kernel
theorem dX6_plants_1 : decode cX6_plants 1 = .ok (.getfield 19, 3) := by decide +kernel
theorem dX6_plants_4 : decode cX6_plants 4 = .ok (.iload_n 1, 1) := by decide +kernel
theorem dX6_plants_5 : decode cX6_plants 5 = .ok (.invokevirtual 168, 3) := by decide +kernel
theorem dX6_plants_8 : decode cX6_plants 8 = .ok (.ifCond .eq 13, 3) := by decide +kernel
theorem dX6_plants_11 : decode cX6_plants 11 = .ok (.iload_n 2, 1) := by decide +kernel
theorem dX6_plants_12 : decode cX6_plants 12 = .ok (.iconst 0, 1) := by decide +kernel
theorem dX6_plants_13 : decode cX6_plants 13 = .ok (.bipush 7, 2) := by decide +kernel
theorem dX6_plants_15 : decode cX6_plants 15 = .ok (.invokestatic 62, 3) := by decide +kernel
theorem dX6_plants_18 : decode cX6_plants 18 = .ok (.ifCond .ne 5, 3) := by decide +kernel
theorem dX6_plants_21 : decode cX6_plants 21 = .ok (.iconst (-1), 1) := by decide +kernel
theorem dX6_plants_22 : decode cX6_plants 22 = .ok (.ireturn, 1) := by decide +kernel
theorem dX6_plants_23 : decode cX6_plants 23 = .ok (.aload_n 0, 1) := by decide +kernel
theorem dX6_plants_24 : decode cX6_plants 24 = .ok (.getfield 19, 3) := by decide +kernel
theorem dX6_plants_27 : decode cX6_plants 27 = .ok (.iload_n 1, 1) := by decide +kernel
theorem dX6_plants_28 : decode cX6_plants 28 = .ok (.invokevirtual 171, 3) := by decide +kernel
theorem dX6_plants_31 : decode cX6_plants 31 = .ok (.ifCond .eq 6, 3) := by decide +kernel
theorem dX6_plants_34 : decode cX6_plants 34 = .ok (.bipush (-2), 2) := by decide +kernel
theorem dX6_plants_36 : decode cX6_plants 36 = .ok (.ireturn, 1) := by decide +kernel
theorem dX6_plants_37 : decode cX6_plants 37 = .ok (.aload_n 0, 1) := by decide +kernel
theorem dX6_plants_38 : decode cX6_plants 38 = .ok (.getfield 19, 3) := by decide +kernel
theorem dX6_plants_41 : decode cX6_plants 41 = .ok (.getfield 149, 3) := by decide +kernel
theorem dX6_plants_44 : decode cX6_plants 44 = .ok (.iconst 5, 1) := by decide +kernel
theorem dX6_plants_45 : decode cX6_plants 45 = .ok (.if_icmp .lt 6, 3) := by decide +kernel
theorem dX6_plants_48 : decode cX6_plants 48 = .ok (.bipush (-3), 2) := by decide +kernel
theorem dX6_plants_50 : decode cX6_plants 50 = .ok (.ireturn, 1) := by decide +kernel
theorem dX6_plants_51 : decode cX6_plants 51 = .ok (.aload_n 0, 1) := by decide +kernel
theorem dX6_plants_52 : decode cX6_plants 52 = .ok (.getfield 29, 3) := by decide +kernel
theorem dX6_plants_55 : decode cX6_plants 55 = .ok (.aload_n 0, 1) := by decide +kernel
theorem dX6_plants_56 : decode cX6_plants 56 = .ok (.getfield 19, 3) := by decide +kernel
theorem dX6_plants_59 : decode cX6_plants 59 = .ok (.invokevirtual 158, 3) := by decide +kernel
theorem dX6_plants_62 : decode cX6_plants 62 = .ok (.aload_n 0, 1) := by decide +kernel
theorem dX6_plants_63 : decode cX6_plants 63 = .ok (.getfield 19, 3) := by decide +kernel
theorem dX6_plants_66 : decode cX6_plants 66 = .ok (.iload_n 1, 1) := by decide +kernel
theorem dX6_plants_67 : decode cX6_plants 67 = .ok (.iconst 1, 1) := by decide +kernel
theorem dX6_plants_68 : decode cX6_plants 68 = .ok (.iconst 0, 1) := by decide +kernel
theorem dX6_plants_69 : decode cX6_plants 69 = .ok (.iload_n 2, 1) := by decide +kernel
theorem dX6_plants_70 : decode cX6_plants 70 = .ok (.invokevirtual 174, 3) := by decide +kernel
theorem dX6_plants_73 : decode cX6_plants 73 = .ok (.aload_n 0, 1) := by decide +kernel
theorem dX6_plants_74 : decode cX6_plants 74 = .ok (.getfield 19, 3) := by decide +kernel
theorem dX6_plants_77 : decode cX6_plants 77 = .ok (.getfield 149, 3) := by decide +kernel
theorem dX6_plants_80 : decode cX6_plants 80 = .ok (.iconst 1, 1) := by decide +kernel
theorem dX6_plants_81 : decode cX6_plants 81 = .ok (.isub, 1) := by decide +kernel
theorem dX6_plants_82 : decode cX6_plants 82 = .ok (.ireturn, 1) := by decide +kernel
set_option maxRecDepth 20000 in
theorem ggX6_fells_X0_hasTree : GoodIn wsX6_fells wsX0_hasTree := goodIn_r _ [9, 10, 11, 12, 13, 52, 53, 54, 55, 56, 57, 58, 59, 60, 61, 62, 63, 64, 65] (by decide +kernel) (by decide +kernel)
set_option maxRecDepth 20000 in
theorem gX6_fells_X0_hasTree : GoodIn wsX6_fells (wsV RX6 90 RX0 yX0_hasTree wsX0_hasTree) := goodIn_app (goodIn_of _ (by decide +kernel)) ggX6_fells_X0_hasTree
set_option maxRecDepth 20000 in
theorem ggX6_fells_X2_remember : GoodIn wsX6_fells wsX2_remember := goodIn_r _ [18, 19, 20, 21, 22, 23, 24, 25, 26, 27, 28, 8, 29, 30, 31, 10, 32, 33, 34, 35, 36, 37, 38, 39, 40, 41, 42, 66, 67, 68, 52, 53, 54, 55, 56, 57, 58, 59, 60, 61, 62, 63, 64, 65] (by decide +kernel) (by decide +kernel)
set_option maxRecDepth 20000 in
theorem gX6_fells_X2_remember : GoodIn wsX6_fells (wsV RX6 158 RX2 yX2_remember wsX2_remember) := goodIn_app (goodIn_of _ (by decide +kernel)) ggX6_fells_X2_remember
theorem dX6_fells_0 : decode cX6_fells 0 = .ok (.aload_n 0, 1) := by decide +kernel
theorem dX6_fells_1 : decode cX6_fells 1 = .ok (.getfield 19, 3) := by decide +kernel
theorem dX6_fells_4 : decode cX6_fells 4 = .ok (.iload_n 1, 1) := by decide +kernel
theorem dX6_fells_5 : decode cX6_fells 5 = .ok (.invokevirtual 90, 3) := by decide +kernel
theorem dX6_fells_8 : decode cX6_fells 8 = .ok (.ifCond .ne 5, 3) := by decide +kernel
theorem dX6_fells_11 : decode cX6_fells 11 = .ok (.iconst (-1), 1) := by decide +kernel
theorem dX6_fells_12 : decode cX6_fells 12 = .ok (.ireturn, 1) := by decide +kernel
theorem dX6_fells_13 : decode cX6_fells 13 = .ok (.aload_n 0, 1) := by decide +kernel
theorem dX6_fells_14 : decode cX6_fells 14 = .ok (.getfield 19, 3) := by decide +kernel
theorem dX6_fells_17 : decode cX6_fells 17 = .ok (.getfield 114, 3) := by decide +kernel
theorem dX6_fells_20 : decode cX6_fells 20 = .ok (.iload_n 1, 1) := by decide +kernel
theorem dX6_fells_21 : decode cX6_fells 21 = .ok (.baload, 1) := by decide +kernel
theorem dX6_fells_22 : decode cX6_fells 22 = .ok (.ifCond .eq 6, 3) := by decide +kernel
theorem dX6_fells_25 : decode cX6_fells 25 = .ok (.bipush (-2), 2) := by decide +kernel
theorem dX6_fells_27 : decode cX6_fells 27 = .ok (.ireturn, 1) := by decide +kernel
theorem dX6_fells_28 : decode cX6_fells 28 = .ok (.aload_n 0, 1) := by decide +kernel
theorem dX6_fells_29 : decode cX6_fells 29 = .ok (.getfield 29, 3) := by decide +kernel
theorem dX6_fells_32 : decode cX6_fells 32 = .ok (.aload_n 0, 1) := by decide +kernel
theorem dX6_fells_33 : decode cX6_fells 33 = .ok (.getfield 19, 3) := by decide +kernel
theorem dX6_fells_36 : decode cX6_fells 36 = .ok (.invokevirtual 158, 3) := by decide +kernel
theorem dX6_fells_39 : decode cX6_fells 39 = .ok (.aload_n 0, 1) := by decide +kernel
theorem dX6_fells_40 : decode cX6_fells 40 = .ok (.getfield 19, 3) := by decide +kernel
theorem dX6_fells_43 : decode cX6_fells 43 = .ok (.getfield 97, 3) := by decide +kernel
theorem dX6_fells_46 : decode cX6_fells 46 = .ok (.iload_n 1, 1) := by decide +kernel
theorem dX6_fells_47 : decode cX6_fells 47 = .ok (.iaload, 1) := by decide +kernel
theorem dX6_fells_48 : decode cX6_fells 48 = .ok (.istore_n 2, 1) := by decide +kernel
theorem dX6_fells_49 : decode cX6_fells 49 = .ok (.aload_n 0, 1) := by decide +kernel
theorem dX6_fells_50 : decode cX6_fells 50 = .ok (.getfield 19, 3) := by decide +kernel
theorem dX6_fells_53 : decode cX6_fells 53 = .ok (.getfield 97, 3) := by decide +kernel
theorem dX6_fells_56 : decode cX6_fells 56 = .ok (.iload_n 1, 1) := by decide +kernel
theorem dX6_fells_57 : decode cX6_fells 57 = .ok (.iconst 0, 1) := by decide +kernel
theorem dX6_fells_58 : decode cX6_fells 58 = .ok (.iastore, 1) := by decide +kernel
theorem dX6_fells_59 : decode cX6_fells 59 = .ok (.aload_n 0, 1) := by decide +kernel
theorem dX6_fells_60 : decode cX6_fells 60 = .ok (.getfield 19, 3) := by decide +kernel
theorem dX6_fells_63 : decode cX6_fells 63 = .ok (.getfield 114, 3) := by decide +kernel
theorem dX6_fells_66 : decode cX6_fells 66 = .ok (.iload_n 1, 1) := by decide +kernel
theorem dX6_fells_67 : decode cX6_fells 67 = .ok (.iconst 1, 1) := by decide +kernel
theorem dX6_fells_68 : decode cX6_fells 68 = .ok (.bastore, 1) := by decide +kernel
theorem dX6_fells_69 : decode cX6_fells 69 = .ok (.iload_n 2, 1) := by decide +kernel
theorem dX6_fells_70 : decode cX6_fells 70 = .ok (.ireturn, 1) := by decide +kernel
set_option maxRecDepth 20000 in
theorem ggX6_winter_X6_isWithin : GoodIn wsX6_winter wsX6_isWithin := goodIn_r _ [7] (by decide +kernel) (by decide +kernel)
set_option maxRecDepth 20000 in
theorem gX6_winter_X6_isWithin : GoodIn wsX6_winter (va_wsS RX6 62 yX6_isWithin wsX6_isWithin) := goodIn_app (goodIn_of _ (by decide +kernel)) ggX6_winter_X6_isWithin
set_option maxRecDepth 20000 in
theorem ggX6_winter_X2_remember : GoodIn wsX6_winter wsX2_remember := goodIn_r _ [12, 13, 14, 15, 16, 17, 18, 19, 20, 21, 22, 23, 24, 25, 26, 27, 28, 29, 30, 31, 32, 33, 34, 35, 36, 37, 38, 65, 66, 67, 51, 52, 53, 54, 55, 56, 57, 58, 59, 60, 61, 62, 63, 64] (by decide +kernel) (by decide +kernel)
set_option maxRecDepth 20000 in
theorem gX6_winter_X2_remember : GoodIn wsX6_winter (wsV RX6 158 RX2 yX2_remember wsX2_remember) := goodIn_app (goodIn_of _ (by decide +kernel)) ggX6_winter_X2_remember
set_option maxRecDepth 20000 in
theorem ggX6_winter_X6_asNumber : GoodIn wsX6_winter wsX6_asNumber := goodIn_r _ [41] (by decide +kernel) (by decide +kernel)
set_option maxRecDepth 20000 in
theorem gX6_winter_X6_asNumber : GoodIn wsX6_winter (va_wsS RX6 103 yX6_asNumber wsX6_asNumber) := goodIn_app (goodIn_of _ (by decide +kernel)) ggX6_winter_X6_asNumber
theorem dX6_winter_0 : decode cX6_winter 0 = .ok (.iload_n 1, 1) := by decide +kernel
theorem dX6_winter_1 : decode cX6_winter 1 = .ok (.iconst 0, 1) := by decide +kernel
theorem dX6_winter_2 : decode cX6_winter 2 = .ok (.iconst 1, 1) := by decide +kernel
theorem dX6_winter_3 : decode cX6_winter 3 = .ok (.invokestatic 62, 3) := by decide +kernel
theorem dX6_winter_6 : decode cX6_winter 6 = .ok (.ifCond .ne 5, 3) := by decide +kernel
theorem dX6_winter_9 : decode cX6_winter 9 = .ok (.iconst (-1), 1) := by decide +kernel
theorem dX6_winter_10 : decode cX6_winter 10 = .ok (.ireturn, 1) := by decide +kernel
theorem dX6_winter_11 : decode cX6_winter 11 = .ok (.aload_n 0, 1) := by decide +kernel
theorem dX6_winter_12 : decode cX6_winter 12 = .ok (.getfield 29, 3) := by decide +kernel
theorem dX6_winter_15 : decode cX6_winter 15 = .ok (.aload_n 0, 1) := by decide +kernel
theorem dX6_winter_16 : decode cX6_winter 16 = .ok (.getfield 19, 3) := by decide +kernel
theorem dX6_winter_19 : decode cX6_winter 19 = .ok (.invokevirtual 158, 3) := by decide +kernel
theorem dX6_winter_22 : decode cX6_winter 22 = .ok (.aload_n 0, 1) := by decide +kernel
theorem dX6_winter_23 : decode cX6_winter 23 = .ok (.getfield 19, 3) := by decide +kernel
theorem dX6_winter_26 : decode cX6_winter 26 = .ok (.getfield 145, 3) := by decide +kernel
theorem dX6_winter_29 : decode cX6_winter 29 = .ok (.invokestatic 103, 3) := by decide +kernel
theorem dX6_winter_32 : decode cX6_winter 32 = .ok (.istore_n 2, 1) := by decide +kernel
theorem dX6_winter_33 : decode cX6_winter 33 = .ok (.aload_n 0, 1) := by decide +kernel
theorem dX6_winter_34 : decode cX6_winter 34 = .ok (.getfield 19, 3) := by decide +kernel
theorem dX6_winter_37 : decode cX6_winter 37 = .ok (.iload_n 1, 1) := by decide +kernel
theorem dX6_winter_38 : decode cX6_winter 38 = .ok (.iconst 1, 1) := by decide +kernel
theorem dX6_winter_39 : decode cX6_winter 39 = .ok (.if_icmp .ne 7, 3) := by decide +kernel
theorem dX6_winter_42 : decode cX6_winter 42 = .ok (.iconst 1, 1) := by decide +kernel
theorem dX6_winter_43 : decode cX6_winter 43 = .ok (.goto 4, 3) := by decide +kernel
theorem dX6_winter_46 : decode cX6_winter 46 = .ok (.iconst 0, 1) := by decide +kernel
theorem dX6_winter_47 : decode cX6_winter 47 = .ok (.putfield 145, 3) := by decide +kernel
theorem dX6_winter_50 : decode cX6_winter 50 = .ok (.iload_n 2, 1) := by decide +kernel
theorem dX6_winter_51 : decode cX6_winter 51 = .ok (.ireturn, 1) := by decide +kernel
set_option maxRecDepth 20000 in
theorem ggX6_sun_X6_isWithin : GoodIn wsX6_sun wsX6_isWithin := goodIn_r _ [7] (by decide +kernel) (by decide +kernel)
set_option maxRecDepth 20000 in
theorem gX6_sun_X6_isWithin : GoodIn wsX6_sun (va_wsS RX6 62 yX6_isWithin wsX6_isWithin) := goodIn_app (goodIn_of _ (by decide +kernel)) ggX6_sun_X6_isWithin
set_option maxRecDepth 20000 in
theorem ggX6_sun_X2_remember : GoodIn wsX6_sun wsX2_remember := goodIn_r _ [12, 13, 14, 15, 16, 17, 18, 19, 20, 21, 22, 23, 24, 25, 26, 27, 28, 29, 30, 31, 32, 33, 34, 35, 36, 37, 38, 62, 63, 64, 48, 49, 50, 51, 52, 53, 54, 55, 56, 57, 58, 59, 60, 61] (by decide +kernel) (by decide +kernel)
set_option maxRecDepth 20000 in
theorem gX6_sun_X2_remember : GoodIn wsX6_sun (wsV RX6 158 RX2 yX2_remember wsX2_remember) := goodIn_app (goodIn_of _ (by decide +kernel)) ggX6_sun_X2_remember
theorem dX6_sun_0 : decode cX6_sun 0 = .ok (.iload_n 1, 1) := by decide +kernel
theorem dX6_sun_1 : decode cX6_sun 1 = .ok (.iconst 1, 1) := by decide +kernel
theorem dX6_sun_2 : decode cX6_sun 2 = .ok (.bipush 9, 2) := by decide +kernel
theorem dX6_sun_4 : decode cX6_sun 4 = .ok (.invokestatic 62, 3) := by decide +kernel
theorem dX6_sun_7 : decode cX6_sun 7 = .ok (.ifCond .ne 5, 3) := by decide +kernel
theorem dX6_sun_10 : decode cX6_sun 10 = .ok (.iconst (-1), 1) := by decide +kernel
theorem dX6_sun_11 : decode cX6_sun 11 = .ok (.ireturn, 1) := by decide +kernel
theorem dX6_sun_12 : decode cX6_sun 12 = .ok (.aload_n 0, 1) := by decide +kernel
theorem dX6_sun_13 : decode cX6_sun 13 = .ok (.getfield 29, 3) := by decide +kernel
theorem dX6_sun_16 : decode cX6_sun 16 = .ok (.aload_n 0, 1) := by decide +kernel
theorem dX6_sun_17 : decode cX6_sun 17 = .ok (.getfield 19, 3) := by decide +kernel
theorem dX6_sun_20 : decode cX6_sun 20 = .ok (.invokevirtual 158, 3) := by decide +kernel
theorem dX6_sun_23 : decode cX6_sun 23 = .ok (.aload_n 0, 1) := by decide +kernel
theorem dX6_sun_24 : decode cX6_sun 24 = .ok (.getfield 19, 3) := by decide +kernel
theorem dX6_sun_27 : decode cX6_sun 27 = .ok (.getfield 142, 3) := by decide +kernel
theorem dX6_sun_30 : decode cX6_sun 30 = .ok (.istore_n 2, 1) := by decide +kernel
theorem dX6_sun_31 : decode cX6_sun 31 = .ok (.aload_n 0, 1) := by decide +kernel
theorem dX6_sun_32 : decode cX6_sun 32 = .ok (.getfield 19, 3) := by decide +kernel
theorem dX6_sun_35 : decode cX6_sun 35 = .ok (.iload_n 1, 1) := by decide +kernel
theorem dX6_sun_36 : decode cX6_sun 36 = .ok (.putfield 142, 3) := by decide +kernel
theorem dX6_sun_39 : decode cX6_sun 39 = .ok (.iload_n 2, 1) := by decide +kernel
theorem dX6_sun_40 : decode cX6_sun 40 = .ok (.ireturn, 1) := by decide +kernel
set_option maxRecDepth 20000 in
theorem ggX6_undo_X2_restore : GoodIn wsX6_undo wsX2_restore := goodIn_r _ [8, 9, 10, 11, 12, 13, 14, 15, 16, 17, 18, 19, 20, 21, 22, 23, 24, 25, 26, 27, 28, 29, 30, 40, 41, 42, 43, 44, 45, 46, 47, 48, 49, 50, 51, 52, 53, 54, 55, 56] (by decide +kernel) (by decide +kernel)
set_option maxRecDepth 20000 in
theorem gX6_undo_X2_restore : GoodIn wsX6_undo (wsV RX6 178 RX2 yX2_restore wsX2_restore) := goodIn_app (goodIn_of _ (by decide +kernel)) ggX6_undo_X2_restore
theorem dX6_undo_0 : decode cX6_undo 0 = .ok (.aload_n 0, 1) := by decide +kernel
theorem dX6_undo_1 : decode cX6_undo 1 = .ok (.getfield 29, 3) := by decide +kernel
theorem dX6_undo_4 : decode cX6_undo 4 = .ok (.getfield 152, 3) := by decide +kernel
theorem dX6_undo_7 : decode cX6_undo 7 = .ok (.ifCond .ne 6, 3) := by decide +kernel
theorem dX6_undo_10 : decode cX6_undo 10 = .ok (.bipush (-2), 2) := by decide +kernel
theorem dX6_undo_12 : decode cX6_undo 12 = .ok (.ireturn, 1) := by decide +kernel
theorem dX6_undo_13 : decode cX6_undo 13 = .ok (.aload_n 0, 1) := by decide +kernel
theorem dX6_undo_14 : decode cX6_undo 14 = .ok (.getfield 29, 3) := by decide +kernel
theorem dX6_undo_17 : decode cX6_undo 17 = .ok (.aload_n 0, 1) := by decide +kernel
theorem dX6_undo_18 : decode cX6_undo 18 = .ok (.getfield 19, 3) := by decide +kernel
theorem dX6_undo_21 : decode cX6_undo 21 = .ok (.invokevirtual 178, 3) := by decide +kernel
theorem dX6_undo_24 : decode cX6_undo 24 = .ok (.aload_n 0, 1) := by decide +kernel
theorem dX6_undo_25 : decode cX6_undo 25 = .ok (.getfield 29, 3) := by decide +kernel
theorem dX6_undo_28 : decode cX6_undo 28 = .ok (.getfield 152, 3) := by decide +kernel
theorem dX6_undo_31 : decode cX6_undo 31 = .ok (.ireturn, 1) := by decide +kernel
set_option maxRecDepth 20000 in
theorem ggX6_movers_X6_isMotion : GoodIn wsX6_movers wsX6_isMotion := goodIn_r _ [6, 7, 8, 5, 9] (by decide +kernel) (by decide +kernel)
set_option maxRecDepth 20000 in
theorem gX6_movers_X6_isMotion : GoodIn wsX6_movers (va_wsS RX6 129 yX6_isMotion wsX6_isMotion) := goodIn_app (goodIn_of _ (by decide +kernel)) ggX6_movers_X6_isMotion
set_option maxRecDepth 20000 in
theorem ggX6_movers_X6_isWithin : GoodIn wsX6_movers wsX6_isWithin := goodIn_r _ [9] (by decide +kernel) (by decide +kernel)
set_option maxRecDepth 20000 in
theorem gX6_movers_X6_isWithin : GoodIn wsX6_movers (va_wsS RX6 62 yX6_isWithin wsX6_isWithin) := goodIn_app (goodIn_of _ (by decide +kernel)) ggX6_movers_X6_isWithin
set_option maxRecDepth 20000 in
theorem ggX6_movers_X3_fewestMovers : GoodIn wsX6_movers wsX3_fewestMovers := goodIn_r _ [14, 15, 16, 17, 18, 19, 20, 21, 22, 23, 24, 25, 26, 27, 28, 29, 30, 31, 32, 33, 34, 35, 36, 37, 38, 39, 40, 41, 42, 43, 44, 45, 46, 47, 48, 8, 5, 9, 49, 50, 51, 52, 13, 53, 54, 55, 56, 57, 58, 59, 60, 61, 62, 63, 64, 65, 66, 67, 68, 69, 70, 71, 72, 73, 74, 75, 76, 77, 78, 79, 80, 81, 82, 83, 84, 85, 86, 87, 88, 89, 90, 91, 101, 102, 103, 104, 105, 106, 107, 108, 109, 110, 111, 112, 113, 114, 115, 116, 117] (by decide +kernel) (by decide +kernel)
set_option maxRecDepth 20000 in
theorem gX6_movers_X3_fewestMovers : GoodIn wsX6_movers (wsV RX6 181 RX3 yX3_fewestMovers wsX3_fewestMovers) := goodIn_app (goodIn_of _ (by decide +kernel)) ggX6_movers_X3_fewestMovers
theorem dX6_movers_0 : decode cX6_movers 0 = .ok (.iload_n 1, 1) := by decide +kernel
theorem dX6_movers_1 : decode cX6_movers 1 = .ok (.invokestatic 129, 3) := by decide +kernel
theorem dX6_movers_4 : decode cX6_movers 4 = .ok (.ifCond .eq 13, 3) := by decide +kernel
theorem dX6_movers_7 : decode cX6_movers 7 = .ok (.iload_n 2, 1) := by decide +kernel
theorem dX6_movers_8 : decode cX6_movers 8 = .ok (.iconst 0, 1) := by decide +kernel
theorem dX6_movers_9 : decode cX6_movers 9 = .ok (.bipush 9, 2) := by decide +kernel
theorem dX6_movers_11 : decode cX6_movers 11 = .ok (.invokestatic 62, 3) := by decide +kernel
theorem dX6_movers_14 : decode cX6_movers 14 = .ok (.ifCond .ne 5, 3) := by decide +kernel
theorem dX6_movers_17 : decode cX6_movers 17 = .ok (.iconst (-1), 1) := by decide +kernel
theorem dX6_movers_18 : decode cX6_movers 18 = .ok (.ireturn, 1) := by decide +kernel
theorem dX6_movers_19 : decode cX6_movers 19 = .ok (.aload_n 0, 1) := by decide +kernel
theorem dX6_movers_20 : decode cX6_movers 20 = .ok (.getfield 36, 3) := by decide +kernel
theorem dX6_movers_23 : decode cX6_movers 23 = .ok (.aload_n 0, 1) := by decide +kernel
theorem dX6_movers_24 : decode cX6_movers 24 = .ok (.getfield 19, 3) := by decide +kernel
theorem dX6_movers_27 : decode cX6_movers 27 = .ok (.iload_n 1, 1) := by decide +kernel
theorem dX6_movers_28 : decode cX6_movers 28 = .ok (.iload_n 2, 1) := by decide +kernel
theorem dX6_movers_29 : decode cX6_movers 29 = .ok (.invokevirtual 181, 3) := by decide +kernel
theorem dX6_movers_32 : decode cX6_movers 32 = .ok (.ireturn, 1) := by decide +kernel
set_option maxRecDepth 20000 in
theorem ggX6_prune_X6_isMotion : GoodIn wsX6_prune wsX6_isMotion := goodIn_r _ [6, 7, 8, 5, 9] (by decide +kernel) (by decide +kernel)
set_option maxRecDepth 20000 in
theorem gX6_prune_X6_isMotion : GoodIn wsX6_prune (va_wsS RX6 129 yX6_isMotion wsX6_isMotion) := goodIn_app (goodIn_of _ (by decide +kernel)) ggX6_prune_X6_isMotion
set_option maxRecDepth 20000 in
theorem ggX6_prune_X3_leastPruning : GoodIn wsX6_prune wsX3_leastPruning := goodIn_r _ [14, 15, 16, 17, 18, 19, 20, 21, 22, 23, 24, 25, 26, 27, 28, 29, 30, 31, 32, 33, 34, 35, 36, 37, 38, 39, 40, 41, 42, 43, 44, 45, 46, 47, 48, 49, 50, 51, 52, 8, 5, 9, 53, 54, 55, 56, 57, 58, 59, 60, 61, 62, 63, 64, 65, 66, 67, 68, 69, 79, 80, 81, 82, 83, 84, 85, 86, 87, 88, 89, 90, 91, 92, 93, 94, 95] (by decide +kernel) (by decide +kernel)
set_option maxRecDepth 20000 in
theorem gX6_prune_X3_leastPruning : GoodIn wsX6_prune (wsV RX6 185 RX3 yX3_leastPruning wsX3_leastPruning) := goodIn_app (goodIn_of _ (by decide +kernel)) ggX6_prune_X3_leastPruning
theorem dX6_prune_0 : decode cX6_prune 0 = .ok (.iload_n 1, 1) := by decide +kernel
theorem dX6_prune_1 : decode cX6_prune 1 = .ok (.invokestatic 129, 3) := by decide +kernel
theorem dX6_prune_4 : decode cX6_prune 4 = .ok (.ifCond .eq 18, 3) := by decide +kernel
theorem dX6_prune_7 : decode cX6_prune 7 = .ok (.aload_n 0, 1) := by decide +kernel
theorem dX6_prune_8 : decode cX6_prune 8 = .ok (.getfield 36, 3) := by decide +kernel
theorem dX6_prune_11 : decode cX6_prune 11 = .ok (.aload_n 0, 1) := by decide +kernel
theorem dX6_prune_12 : decode cX6_prune 12 = .ok (.getfield 19, 3) := by decide +kernel
theorem dX6_prune_15 : decode cX6_prune 15 = .ok (.iload_n 1, 1) := by decide +kernel
theorem dX6_prune_16 : decode cX6_prune 16 = .ok (.invokevirtual 185, 3) := by decide +kernel
theorem dX6_prune_19 : decode cX6_prune 19 = .ok (.goto 4, 3) := by decide +kernel
theorem dX6_prune_22 : decode cX6_prune 22 = .ok (.iconst (-1), 1) := by decide +kernel
theorem dX6_prune_23 : decode cX6_prune 23 = .ok (.ireturn, 1) := by decide +kernel
set_option maxRecDepth 20000 in
theorem ggX6_plant_X6_isMotion : GoodIn wsX6_plant wsX6_isMotion := goodIn_r _ [6, 7, 8, 5, 9] (by decide +kernel) (by decide +kernel)
set_option maxRecDepth 20000 in
theorem gX6_plant_X6_isMotion : GoodIn wsX6_plant (va_wsS RX6 129 yX6_isMotion wsX6_isMotion) := goodIn_app (goodIn_of _ (by decide +kernel)) ggX6_plant_X6_isMotion
set_option maxRecDepth 20000 in
theorem ggX6_plant_X6_isWithin : GoodIn wsX6_plant wsX6_isWithin := goodIn_r _ [9] (by decide +kernel) (by decide +kernel)
set_option maxRecDepth 20000 in
theorem gX6_plant_X6_isWithin : GoodIn wsX6_plant (va_wsS RX6 62 yX6_isWithin wsX6_isWithin) := goodIn_app (goodIn_of _ (by decide +kernel)) ggX6_plant_X6_isWithin
set_option maxRecDepth 20000 in
theorem ggX6_plant_X3_cellToPlant : GoodIn wsX6_plant wsX3_cellToPlant := goodIn_r _ [14, 15, 16, 17, 18, 19, 20, 21, 22, 23, 24, 25, 26, 27, 28, 29, 30, 31, 32, 33, 34, 35, 36, 37, 38, 39, 40, 41, 42, 43, 44, 45, 46, 47, 48, 49, 50, 51, 52, 53, 54, 55, 56, 57, 58, 59, 60, 61, 62, 63, 64, 65, 66, 67, 68, 69, 70, 8, 5, 9, 71, 72, 82, 83, 84, 85, 86, 87, 88, 89, 90, 91, 92, 93, 94, 95, 96, 97, 98] (by decide +kernel) (by decide +kernel)
set_option maxRecDepth 20000 in
theorem gX6_plant_X3_cellToPlant : GoodIn wsX6_plant (wsV RX6 189 RX3 yX3_cellToPlant wsX3_cellToPlant) := goodIn_app (goodIn_of _ (by decide +kernel)) ggX6_plant_X3_cellToPlant
theorem dX6_plant_0 : decode cX6_plant 0 = .ok (.iload_n 1, 1) := by decide +kernel
theorem dX6_plant_1 : decode cX6_plant 1 = .ok (.invokestatic 129, 3) := by decide +kernel
theorem dX6_plant_4 : decode cX6_plant 4 = .ok (.ifCond .eq 13, 3) := by decide +kernel
theorem dX6_plant_7 : decode cX6_plant 7 = .ok (.iload_n 2, 1) := by decide +kernel
theorem dX6_plant_8 : decode cX6_plant 8 = .ok (.iconst 1, 1) := by decide +kernel
theorem dX6_plant_9 : decode cX6_plant 9 = .ok (.bipush 20, 2) := by decide +kernel
theorem dX6_plant_11 : decode cX6_plant 11 = .ok (.invokestatic 62, 3) := by decide +kernel
theorem dX6_plant_14 : decode cX6_plant 14 = .ok (.ifCond .ne 5, 3) := by decide +kernel
theorem dX6_plant_17 : decode cX6_plant 17 = .ok (.iconst (-1), 1) := by decide +kernel
theorem dX6_plant_18 : decode cX6_plant 18 = .ok (.ireturn, 1) := by decide +kernel
theorem dX6_plant_19 : decode cX6_plant 19 = .ok (.aload_n 0, 1) := by decide +kernel
theorem dX6_plant_20 : decode cX6_plant 20 = .ok (.getfield 36, 3) := by decide +kernel
theorem dX6_plant_23 : decode cX6_plant 23 = .ok (.aload_n 0, 1) := by decide +kernel
theorem dX6_plant_24 : decode cX6_plant 24 = .ok (.getfield 19, 3) := by decide +kernel
theorem dX6_plant_27 : decode cX6_plant 27 = .ok (.iload_n 1, 1) := by decide +kernel
theorem dX6_plant_28 : decode cX6_plant 28 = .ok (.iload_n 2, 1) := by decide +kernel
theorem dX6_plant_29 : decode cX6_plant 29 = .ok (.invokevirtual 189, 3) := by decide +kernel
theorem dX6_plant_32 : decode cX6_plant 32 = .ok (.ireturn, 1) := by decide +kernel
set_option maxRecDepth 20000 in
theorem ggX6_suns_X6_isMotion : GoodIn wsX6_suns wsX6_isMotion := goodIn_r _ [6, 7, 8, 5, 9] (by decide +kernel) (by decide +kernel)
set_option maxRecDepth 20000 in
theorem gX6_suns_X6_isMotion : GoodIn wsX6_suns (va_wsS RX6 129 yX6_isMotion wsX6_isMotion) := goodIn_app (goodIn_of _ (by decide +kernel)) ggX6_suns_X6_isMotion
set_option maxRecDepth 20000 in
theorem ggX6_suns_X3_carryingSuns : GoodIn wsX6_suns wsX3_carryingSuns := goodIn_r _ [14, 15, 16, 17, 18, 19, 20, 21, 22, 23, 24, 25, 26, 27, 28, 29, 30, 31, 32, 33, 34, 35, 36, 37, 38, 39, 40, 41, 42, 43, 44, 45, 46, 47, 48, 49, 50, 51, 52, 53, 54, 55, 56, 57, 58, 59, 8, 5, 9, 60, 61, 62, 63, 73, 74, 75, 76, 77, 78, 79, 80, 81, 82, 83, 84, 85, 86, 87, 88, 89] (by decide +kernel) (by decide +kernel)
set_option maxRecDepth 20000 in
theorem gX6_suns_X3_carryingSuns : GoodIn wsX6_suns (wsV RX6 192 RX3 yX3_carryingSuns wsX3_carryingSuns) := goodIn_app (goodIn_of _ (by decide +kernel)) ggX6_suns_X3_carryingSuns
theorem dX6_suns_0 : decode cX6_suns 0 = .ok (.iload_n 1, 1) := by decide +kernel
theorem dX6_suns_1 : decode cX6_suns 1 = .ok (.invokestatic 129, 3) := by decide +kernel
theorem dX6_suns_4 : decode cX6_suns 4 = .ok (.ifCond .eq 18, 3) := by decide +kernel
theorem dX6_suns_7 : decode cX6_suns 7 = .ok (.aload_n 0, 1) := by decide +kernel
theorem dX6_suns_8 : decode cX6_suns 8 = .ok (.getfield 36, 3) := by decide +kernel
theorem dX6_suns_11 : decode cX6_suns 11 = .ok (.aload_n 0, 1) := by decide +kernel
theorem dX6_suns_12 : decode cX6_suns 12 = .ok (.getfield 19, 3) := by decide +kernel
theorem dX6_suns_15 : decode cX6_suns 15 = .ok (.iload_n 1, 1) := by decide +kernel
theorem dX6_suns_16 : decode cX6_suns 16 = .ok (.invokevirtual 192, 3) := by decide +kernel
theorem dX6_suns_19 : decode cX6_suns 19 = .ok (.goto 4, 3) := by decide +kernel
theorem dX6_suns_22 : decode cX6_suns 22 = .ok (.iconst (-1), 1) := by decide +kernel
theorem dX6_suns_23 : decode cX6_suns 23 = .ok (.ireturn, 1) := by decide +kernel
set_option maxRecDepth 20000 in
theorem ggX6_hedge_X6_isMotion : GoodIn wsX6_hedge wsX6_isMotion := goodIn_r _ [6, 7, 8, 5, 9] (by decide +kernel) (by decide +kernel)
set_option maxRecDepth 20000 in
theorem gX6_hedge_X6_isMotion : GoodIn wsX6_hedge (va_wsS RX6 129 yX6_isMotion wsX6_isMotion) := goodIn_app (goodIn_of _ (by decide +kernel)) ggX6_hedge_X6_isMotion
set_option maxRecDepth 20000 in
theorem ggX6_hedge_X3_partingColumn : GoodIn wsX6_hedge wsX3_partingColumn := goodIn_r _ [14, 15, 16, 17, 18, 19, 20, 21, 22, 23, 24, 25, 26, 27, 8, 5, 9, 28, 29, 30, 31, 32, 33, 34, 35, 36, 37, 38, 39, 40, 41, 42, 43, 44, 45, 46, 47, 48, 49, 50, 51, 52, 53, 54, 55, 56, 57, 67, 68, 69, 70, 71, 72, 73, 74, 75, 76, 77, 78, 79, 80] (by decide +kernel) (by decide +kernel)
set_option maxRecDepth 20000 in
theorem gX6_hedge_X3_partingColumn : GoodIn wsX6_hedge (wsV RX6 195 RX3 yX3_partingColumn wsX3_partingColumn) := goodIn_app (goodIn_of _ (by decide +kernel)) ggX6_hedge_X3_partingColumn
theorem dX6_hedge_0 : decode cX6_hedge 0 = .ok (.iload_n 1, 1) := by decide +kernel
theorem dX6_hedge_1 : decode cX6_hedge 1 = .ok (.invokestatic 129, 3) := by decide +kernel
theorem dX6_hedge_4 : decode cX6_hedge 4 = .ok (.ifCond .eq 18, 3) := by decide +kernel
theorem dX6_hedge_7 : decode cX6_hedge 7 = .ok (.aload_n 0, 1) := by decide +kernel
theorem dX6_hedge_8 : decode cX6_hedge 8 = .ok (.getfield 36, 3) := by decide +kernel
theorem dX6_hedge_11 : decode cX6_hedge 11 = .ok (.aload_n 0, 1) := by decide +kernel
theorem dX6_hedge_12 : decode cX6_hedge 12 = .ok (.getfield 19, 3) := by decide +kernel
theorem dX6_hedge_15 : decode cX6_hedge 15 = .ok (.iload_n 1, 1) := by decide +kernel
theorem dX6_hedge_16 : decode cX6_hedge 16 = .ok (.invokevirtual 195, 3) := by decide +kernel
theorem dX6_hedge_19 : decode cX6_hedge 19 = .ok (.goto 4, 3) := by decide +kernel
theorem dX6_hedge_22 : decode cX6_hedge 22 = .ok (.iconst (-1), 1) := by decide +kernel
theorem dX6_hedge_23 : decode cX6_hedge 23 = .ok (.ireturn, 1) := by decide +kernel
set_option maxRecDepth 20000 in
theorem ggX6_share_X0_hasTree : GoodIn wsX6_share wsX0_hasTree := goodIn_r _ [6, 7, 8, 9, 10, 49, 50, 51, 52, 53, 54, 55, 56, 57, 58, 59, 60, 61, 62] (by decide +kernel) (by decide +kernel)
set_option maxRecDepth 20000 in
theorem gX6_share_X0_hasTree : GoodIn wsX6_share (wsV RX6 90 RX0 yX0_hasTree wsX0_hasTree) := goodIn_app (goodIn_of _ (by decide +kernel)) ggX6_share_X0_hasTree
set_option maxRecDepth 20000 in
theorem ggX6_share_X0_weightUnder : GoodIn wsX6_share wsX0_weightUnder := goodIn_r _ [14, 15, 16, 17, 18, 19, 20, 5, 21, 7, 22, 23, 24, 25, 26, 27, 28, 29, 30, 31, 49, 50, 51, 52, 53, 54, 55, 56, 57, 58, 59, 60, 61, 62] (by decide +kernel) (by decide +kernel)
set_option maxRecDepth 20000 in
theorem gX6_share_X0_weightUnder : GoodIn wsX6_share (wsV RX6 198 RX0 yX0_weightUnder wsX0_weightUnder) := goodIn_app (goodIn_of _ (by decide +kernel)) ggX6_share_X0_weightUnder
set_option maxRecDepth 20000 in
theorem ggX6_share_X0_weightUnderTrees : GoodIn wsX6_share wsX0_weightUnderTrees := goodIn_r _ [35, 7, 36, 12, 13, 5, 14, 15, 16, 17, 18, 19, 20, 21, 22, 23, 24, 25, 26, 27, 28, 29, 30, 31, 49, 50, 51, 52, 53, 54, 55, 56, 57, 58, 59, 60, 61, 62] (by decide +kernel) (by decide +kernel)
set_option maxRecDepth 20000 in
theorem gX6_share_X0_weightUnderTrees : GoodIn wsX6_share (wsV RX6 201 RX0 yX0_weightUnderTrees wsX0_weightUnderTrees) := goodIn_app (goodIn_of _ (by decide +kernel)) ggX6_share_X0_weightUnderTrees
set_option maxRecDepth 20000 in
theorem ggX6_share_X6_cut : GoodIn wsX6_share wsX6_cut := goodIn_r _ [39] (by decide +kernel) (by decide +kernel)
set_option maxRecDepth 20000 in
theorem gX6_share_X6_cut : GoodIn wsX6_share (va_wsS RX6 204 yX6_cut wsX6_cut) := goodIn_app (goodIn_of _ (by decide +kernel)) ggX6_share_X6_cut
theorem dX6_share_0 : decode cX6_share 0 = .ok (.aload_n 0, 1) := by decide +kernel
theorem dX6_share_1 : decode cX6_share 1 = .ok (.getfield 19, 3) := by decide +kernel
theorem dX6_share_4 : decode cX6_share 4 = .ok (.iload_n 1, 1) := by decide +kernel
theorem dX6_share_5 : decode cX6_share 5 = .ok (.invokevirtual 90, 3) := by decide +kernel
theorem dX6_share_8 : decode cX6_share 8 = .ok (.ifCond .ne 5, 3) := by decide +kernel
theorem dX6_share_11 : decode cX6_share 11 = .ok (.iconst (-1), 1) := by decide +kernel
theorem dX6_share_12 : decode cX6_share 12 = .ok (.ireturn, 1) := by decide +kernel
theorem dX6_share_13 : decode cX6_share 13 = .ok (.bipush 100, 2) := by decide +kernel
theorem dX6_share_15 : decode cX6_share 15 = .ok (.aload_n 0, 1) := by decide +kernel
theorem dX6_share_16 : decode cX6_share 16 = .ok (.getfield 19, 3) := by decide +kernel
theorem dX6_share_19 : decode cX6_share 19 = .ok (.iload_n 1, 1) := by decide +kernel
theorem dX6_share_20 : decode cX6_share 20 = .ok (.invokevirtual 198, 3) := by decide +kernel
theorem dX6_share_23 : decode cX6_share 23 = .ok (.imul, 1) := by decide +kernel
theorem dX6_share_24 : decode cX6_share 24 = .ok (.aload_n 0, 1) := by decide +kernel
theorem dX6_share_25 : decode cX6_share 25 = .ok (.getfield 19, 3) := by decide +kernel
theorem dX6_share_28 : decode cX6_share 28 = .ok (.invokevirtual 201, 3) := by decide +kernel
theorem dX6_share_31 : decode cX6_share 31 = .ok (.invokestatic 204, 3) := by decide +kernel
theorem dX6_share_34 : decode cX6_share 34 = .ok (.ireturn, 1) := by decide +kernel
set_option maxRecDepth 20000 in
theorem ggX6_counted_X6_isMotion : GoodIn wsX6_counted wsX6_isMotion := goodIn_r _ [6, 7, 8, 5, 9] (by decide +kernel) (by decide +kernel)
set_option maxRecDepth 20000 in
theorem gX6_counted_X6_isMotion : GoodIn wsX6_counted (va_wsS RX6 129 yX6_isMotion wsX6_isMotion) := goodIn_app (goodIn_of _ (by decide +kernel)) ggX6_counted_X6_isMotion
set_option maxRecDepth 20000 in
theorem ggX6_counted_X6_isWithin : GoodIn wsX6_counted wsX6_isWithin := goodIn_r _ [9] (by decide +kernel) (by decide +kernel)
set_option maxRecDepth 20000 in
theorem gX6_counted_X6_isWithin : GoodIn wsX6_counted (va_wsS RX6 62 yX6_isWithin wsX6_isWithin) := goodIn_app (goodIn_of _ (by decide +kernel)) ggX6_counted_X6_isWithin
set_option maxRecDepth 20000 in
theorem ggX6_counted_X4_add : GoodIn wsX6_counted wsX4_add := goodIn_r _ [14, 15, 16, 17, 27, 28, 29] (by decide +kernel) (by decide +kernel)
set_option maxRecDepth 20000 in
theorem gX6_counted_X4_add : GoodIn wsX6_counted (wsV RX6 207 RX4 yX4_add wsX4_add) := goodIn_app (goodIn_of _ (by decide +kernel)) ggX6_counted_X4_add
theorem dX6_counted_0 : decode cX6_counted 0 = .ok (.iload_n 1, 1) := by decide +kernel
theorem dX6_counted_1 : decode cX6_counted 1 = .ok (.invokestatic 129, 3) := by decide +kernel
theorem dX6_counted_4 : decode cX6_counted 4 = .ok (.ifCond .eq 13, 3) := by decide +kernel
theorem dX6_counted_7 : decode cX6_counted 7 = .ok (.iload_n 2, 1) := by decide +kernel
theorem dX6_counted_8 : decode cX6_counted 8 = .ok (.iconst 0, 1) := by decide +kernel
theorem dX6_counted_9 : decode cX6_counted 9 = .ok (.bipush 28, 2) := by decide +kernel
theorem dX6_counted_11 : decode cX6_counted 11 = .ok (.invokestatic 62, 3) := by decide +kernel
theorem dX6_counted_14 : decode cX6_counted 14 = .ok (.ifCond .ne 5, 3) := by decide +kernel
theorem dX6_counted_17 : decode cX6_counted 17 = .ok (.iconst (-1), 1) := by decide +kernel
theorem dX6_counted_18 : decode cX6_counted 18 = .ok (.ireturn, 1) := by decide +kernel
theorem dX6_counted_19 : decode cX6_counted 19 = .ok (.aload_n 0, 1) := by decide +kernel
theorem dX6_counted_20 : decode cX6_counted 20 = .ok (.getfield 43, 3) := by decide +kernel
theorem dX6_counted_23 : decode cX6_counted 23 = .ok (.iload_n 1, 1) := by decide +kernel
theorem dX6_counted_24 : decode cX6_counted 24 = .ok (.iload_n 2, 1) := by decide +kernel
theorem dX6_counted_25 : decode cX6_counted 25 = .ok (.invokevirtual 207, 3) := by decide +kernel
theorem dX6_counted_28 : decode cX6_counted 28 = .ok (.ifCond .eq 13, 3) := by decide +kernel
theorem dX6_counted_31 : decode cX6_counted 31 = .ok (.aload_n 0, 1) := by decide +kernel
theorem dX6_counted_32 : decode cX6_counted 32 = .ok (.getfield 43, 3) := by decide +kernel
theorem dX6_counted_35 : decode cX6_counted 35 = .ok (.getfield 210, 3) := by decide +kernel
theorem dX6_counted_38 : decode cX6_counted 38 = .ok (.goto 5, 3) := by decide +kernel
theorem dX6_counted_41 : decode cX6_counted 41 = .ok (.bipush (-3), 2) := by decide +kernel
theorem dX6_counted_43 : decode cX6_counted 43 = .ok (.ireturn, 1) := by decide +kernel
set_option maxRecDepth 20000 in
theorem ggX6_forget_X4_empty : GoodIn wsX6_forget wsX4_empty := goodIn_r _ [6, 7, 17, 18, 19] (by decide +kernel) (by decide +kernel)
set_option maxRecDepth 20000 in
theorem gX6_forget_X4_empty : GoodIn wsX6_forget (wsV RX6 89 RX4 yX4_empty wsX4_empty) := goodIn_app (goodIn_of _ (by decide +kernel)) ggX6_forget_X4_empty
theorem dX6_forget_0 : decode cX6_forget 0 = .ok (.aload_n 0, 1) := by decide +kernel
theorem dX6_forget_1 : decode cX6_forget 1 = .ok (.getfield 43, 3) := by decide +kernel
theorem dX6_forget_4 : decode cX6_forget 4 = .ok (.invokevirtual 89, 3) := by decide +kernel
theorem dX6_forget_7 : decode cX6_forget 7 = .ok (.ireturn, 1) := by decide +kernel
set_option maxRecDepth 20000 in
theorem ggX6_mayBe_X3_possibleSuns : GoodIn wsX6_mayBe wsX3_possibleSuns := goodIn_r _ [8, 9, 10, 11, 12, 13, 14, 15, 16, 17, 18, 19, 20, 21, 22, 23, 24, 25, 26, 27, 28, 29, 30, 31, 32, 33, 34, 35, 36, 37, 38, 39, 40, 41, 42, 43, 44, 45, 46, 47, 48, 49, 50, 51, 52, 53, 54, 55, 56, 57, 58, 59, 60, 61, 62, 63, 64, 74, 75, 76, 77, 78, 79, 80, 81, 82, 83, 84, 85, 86, 87, 88, 89, 90, 91, 92, 93] (by decide +kernel) (by decide +kernel)
set_option maxRecDepth 20000 in
theorem gX6_mayBe_X3_possibleSuns : GoodIn wsX6_mayBe (wsV RX6 211 RX3 yX3_possibleSuns wsX3_possibleSuns) := goodIn_app (goodIn_of _ (by decide +kernel)) ggX6_mayBe_X3_possibleSuns
theorem dX6_mayBe_0 : decode cX6_mayBe 0 = .ok (.aload_n 0, 1) := by decide +kernel
theorem dX6_mayBe_1 : decode cX6_mayBe 1 = .ok (.getfield 36, 3) := by decide +kernel
theorem dX6_mayBe_4 : decode cX6_mayBe 4 = .ok (.aload_n 0, 1) := by decide +kernel
theorem dX6_mayBe_5 : decode cX6_mayBe 5 = .ok (.getfield 19, 3) := by decide +kernel
theorem dX6_mayBe_8 : decode cX6_mayBe 8 = .ok (.aload_n 0, 1) := by decide +kernel
theorem dX6_mayBe_9 : decode cX6_mayBe 9 = .ok (.getfield 43, 3) := by decide +kernel
theorem dX6_mayBe_12 : decode cX6_mayBe 12 = .ok (.invokevirtual 211, 3) := by decide +kernel
theorem dX6_mayBe_15 : decode cX6_mayBe 15 = .ok (.ireturn, 1) := by decide +kernel
set_option maxRecDepth 20000 in
theorem ggX6_odds_X6_isMotion : GoodIn wsX6_odds wsX6_isMotion := goodIn_r _ [7, 8, 9, 6, 10] (by decide +kernel) (by decide +kernel)
set_option maxRecDepth 20000 in
theorem gX6_odds_X6_isMotion : GoodIn wsX6_odds (va_wsS RX6 129 yX6_isMotion wsX6_isMotion) := goodIn_app (goodIn_of _ (by decide +kernel)) ggX6_odds_X6_isMotion
set_option maxRecDepth 20000 in
theorem ggX6_odds_X6_isWithin : GoodIn wsX6_odds wsX6_isWithin := goodIn_r _ [10] (by decide +kernel) (by decide +kernel)
set_option maxRecDepth 20000 in
theorem gX6_odds_X6_isWithin : GoodIn wsX6_odds (va_wsS RX6 62 yX6_isWithin wsX6_isWithin) := goodIn_app (goodIn_of _ (by decide +kernel)) ggX6_odds_X6_isWithin
set_option maxRecDepth 20000 in
theorem ggX6_odds_X6_power : GoodIn wsX6_odds wsX6_power := goodIn_r _ [13] (by decide +kernel) (by decide +kernel)
set_option maxRecDepth 20000 in
theorem gX6_odds_X6_power : GoodIn wsX6_odds (va_wsS RX6 218 yX6_power wsX6_power) := goodIn_app (goodIn_of _ (by decide +kernel)) ggX6_odds_X6_power
set_option maxRecDepth 20000 in
theorem ggX6_odds_X3_chancesToCarry : GoodIn wsX6_odds wsX3_chancesToCarry := goodIn_r _ [18, 19, 20, 21, 22, 23, 24, 25, 26, 27, 28, 29, 30, 31, 32, 33, 34, 35, 36, 37, 38, 39, 40, 41, 42, 43, 44, 45, 46, 47, 48, 49, 50, 51, 52, 9, 6, 10, 53, 54, 55, 56, 57, 17, 58, 59, 60, 61, 62, 63, 64, 65, 12, 13, 81, 82, 83, 84, 85, 86, 87, 88, 89, 90, 91, 92, 93, 94, 95, 96, 97] (by decide +kernel) (by decide +kernel)
set_option maxRecDepth 20000 in
theorem gX6_odds_X3_chancesToCarry : GoodIn wsX6_odds (wsV RX6 221 RX3 yX3_chancesToCarry wsX3_chancesToCarry) := goodIn_app (goodIn_of _ (by decide +kernel)) ggX6_odds_X3_chancesToCarry
set_option maxRecDepth 20000 in
theorem ggX6_odds_X6_commonDivisor : GoodIn wsX6_odds wsX6_commonDivisor := goodIn_r _ [68] (by decide +kernel) (by decide +kernel)
set_option maxRecDepth 20000 in
theorem gX6_odds_X6_commonDivisor : GoodIn wsX6_odds (va_wsS RX6 224 yX6_commonDivisor wsX6_commonDivisor) := goodIn_app (goodIn_of _ (by decide +kernel)) ggX6_odds_X6_commonDivisor
set_option maxRecDepth 20000 in
theorem ggX6_odds_X6_cut : GoodIn wsX6_odds wsX6_cut := goodIn_r _ [71] (by decide +kernel) (by decide +kernel)
set_option maxRecDepth 20000 in
theorem gX6_odds_X6_cut : GoodIn wsX6_odds (va_wsS RX6 204 yX6_cut wsX6_cut) := goodIn_app (goodIn_of _ (by decide +kernel)) ggX6_odds_X6_cut
theorem dX6_odds_0 : decode cX6_odds 0 = .ok (.iload_n 1, 1) := by decide +kernel
theorem dX6_odds_1 : decode cX6_odds 1 = .ok (.invokestatic 129, 3) := by decide +kernel
theorem dX6_odds_4 : decode cX6_odds 4 = .ok (.ifCond .eq 22, 3) := by decide +kernel
theorem dX6_odds_7 : decode cX6_odds 7 = .ok (.iload_n 2, 1) := by decide +kernel
theorem dX6_odds_8 : decode cX6_odds 8 = .ok (.iconst 0, 1) := by decide +kernel
theorem dX6_odds_9 : decode cX6_odds 9 = .ok (.bipush 10, 2) := by decide +kernel
theorem dX6_odds_11 : decode cX6_odds 11 = .ok (.invokestatic 62, 3) := by decide +kernel
theorem dX6_odds_14 : decode cX6_odds 14 = .ok (.ifCond .eq 12, 3) := by decide +kernel
theorem dX6_odds_17 : decode cX6_odds 17 = .ok (.iload_n 3, 1) := by decide +kernel
theorem dX6_odds_18 : decode cX6_odds 18 = .ok (.iconst 0, 1) := by decide +kernel
theorem dX6_odds_19 : decode cX6_odds 19 = .ok (.iconst 1, 1) := by decide +kernel
theorem dX6_odds_20 : decode cX6_odds 20 = .ok (.invokestatic 62, 3) := by decide +kernel
theorem dX6_odds_23 : decode cX6_odds 23 = .ok (.ifCond .ne 5, 3) := by decide +kernel
theorem dX6_odds_26 : decode cX6_odds 26 = .ok (.iconst (-1), 1) := by decide +kernel
theorem dX6_odds_27 : decode cX6_odds 27 = .ok (.ireturn, 1) := by decide +kernel
theorem dX6_odds_28 : decode cX6_odds 28 = .ok (.bipush 10, 2) := by decide +kernel
theorem dX6_odds_30 : decode cX6_odds 30 = .ok (.aload_n 0, 1) := by decide +kernel
theorem dX6_odds_31 : decode cX6_odds 31 = .ok (.getfield 19, 3) := by decide +kernel
theorem dX6_odds_34 : decode cX6_odds 34 = .ok (.getfield 215, 3) := by decide +kernel
theorem dX6_odds_37 : decode cX6_odds 37 = .ok (.invokestatic 218, 3) := by decide +kernel
theorem dX6_odds_40 : decode cX6_odds 40 = .ok (.istore 4, 2) := by decide +kernel
theorem dX6_odds_42 : decode cX6_odds 42 = .ok (.aload_n 0, 1) := by decide +kernel
theorem dX6_odds_43 : decode cX6_odds 43 = .ok (.getfield 36, 3) := by decide +kernel
theorem dX6_odds_46 : decode cX6_odds 46 = .ok (.aload_n 0, 1) := by decide +kernel
theorem dX6_odds_47 : decode cX6_odds 47 = .ok (.getfield 19, 3) := by decide +kernel
theorem dX6_odds_50 : decode cX6_odds 50 = .ok (.iload_n 1, 1) := by decide +kernel
theorem dX6_odds_51 : decode cX6_odds 51 = .ok (.iload_n 2, 1) := by decide +kernel
theorem dX6_odds_52 : decode cX6_odds 52 = .ok (.invokevirtual 221, 3) := by decide +kernel
theorem dX6_odds_55 : decode cX6_odds 55 = .ok (.istore 5, 2) := by decide +kernel
theorem dX6_odds_57 : decode cX6_odds 57 = .ok (.iload_n 3, 1) := by decide +kernel
theorem dX6_odds_58 : decode cX6_odds 58 = .ok (.ifCond .ne 8, 3) := by decide +kernel
theorem dX6_odds_61 : decode cX6_odds 61 = .ok (.iload 5, 2) := by decide +kernel
theorem dX6_odds_63 : decode cX6_odds 63 = .ok (.goto 5, 3) := by decide +kernel
theorem dX6_odds_66 : decode cX6_odds 66 = .ok (.iload 4, 2) := by decide +kernel
theorem dX6_odds_68 : decode cX6_odds 68 = .ok (.iload 5, 2) := by decide +kernel
theorem dX6_odds_70 : decode cX6_odds 70 = .ok (.iload 4, 2) := by decide +kernel
theorem dX6_odds_72 : decode cX6_odds 72 = .ok (.invokestatic 224, 3) := by decide +kernel
theorem dX6_odds_75 : decode cX6_odds 75 = .ok (.invokestatic 204, 3) := by decide +kernel
theorem dX6_odds_78 : decode cX6_odds 78 = .ok (.ireturn, 1) := by decide +kernel
set_option maxRecDepth 20000 in
theorem ggX6_sway_X6_isMotion : GoodIn wsX6_sway wsX6_isMotion := goodIn_r _ [6, 7, 8, 5, 9] (by decide +kernel) (by decide +kernel)
set_option maxRecDepth 20000 in
theorem gX6_sway_X6_isMotion : GoodIn wsX6_sway (va_wsS RX6 129 yX6_isMotion wsX6_isMotion) := goodIn_app (goodIn_of _ (by decide +kernel)) ggX6_sway_X6_isMotion
set_option maxRecDepth 20000 in
theorem ggX6_sway_X3_whoSways : GoodIn wsX6_sway wsX3_whoSways := goodIn_r _ [14, 15, 16, 17, 18, 19, 20, 21, 22, 23, 24, 25, 26, 27, 28, 29, 30, 31, 32, 33, 34, 35, 36, 37, 38, 39, 40, 41, 42, 43, 44, 45, 46, 47, 8, 5, 9, 48, 49, 50, 51, 52, 53, 63, 64, 65, 66, 67, 68, 69, 70, 71, 72, 73, 74, 75, 76] (by decide +kernel) (by decide +kernel)
set_option maxRecDepth 20000 in
theorem gX6_sway_X3_whoSways : GoodIn wsX6_sway (wsV RX6 227 RX3 yX3_whoSways wsX3_whoSways) := goodIn_app (goodIn_of _ (by decide +kernel)) ggX6_sway_X3_whoSways
theorem dX6_sway_0 : decode cX6_sway 0 = .ok (.iload_n 1, 1) := by decide +kernel
theorem dX6_sway_1 : decode cX6_sway 1 = .ok (.invokestatic 129, 3) := by decide +kernel
theorem dX6_sway_4 : decode cX6_sway 4 = .ok (.ifCond .eq 18, 3) := by decide +kernel
theorem dX6_sway_7 : decode cX6_sway 7 = .ok (.aload_n 0, 1) := by decide +kernel
theorem dX6_sway_8 : decode cX6_sway 8 = .ok (.getfield 36, 3) := by decide +kernel
theorem dX6_sway_11 : decode cX6_sway 11 = .ok (.aload_n 0, 1) := by decide +kernel
theorem dX6_sway_12 : decode cX6_sway 12 = .ok (.getfield 19, 3) := by decide +kernel
theorem dX6_sway_15 : decode cX6_sway 15 = .ok (.iload_n 1, 1) := by decide +kernel
theorem dX6_sway_16 : decode cX6_sway 16 = .ok (.invokevirtual 227, 3) := by decide +kernel
theorem dX6_sway_19 : decode cX6_sway 19 = .ok (.goto 4, 3) := by decide +kernel
theorem dX6_sway_22 : decode cX6_sway 22 = .ok (.iconst (-1), 1) := by decide +kernel
theorem dX6_sway_23 : decode cX6_sway 23 = .ok (.ireturn, 1) := by decide +kernel
set_option maxRecDepth 20000 in
theorem ggX6_cool_X0_hasPerson : GoodIn wsX6_cool wsX0_hasPerson := goodIn_r _ [8, 9, 10, 11, 12, 65, 66, 67, 68, 69, 70, 71, 72, 73, 74, 75, 76, 77, 78] (by decide +kernel) (by decide +kernel)
set_option maxRecDepth 20000 in
theorem gX6_cool_X0_hasPerson : GoodIn wsX6_cool (wsV RX6 117 RX0 yX0_hasPerson wsX0_hasPerson) := goodIn_app (goodIn_of _ (by decide +kernel)) ggX6_cool_X0_hasPerson
set_option maxRecDepth 20000 in
theorem ggX6_cool_X3_nearestShade : GoodIn wsX6_cool wsX3_nearestShade := goodIn_r _ [17, 18, 19, 20, 7, 21, 22, 23, 24, 25, 26, 27, 28, 29, 30, 31, 32, 33, 34, 35, 36, 37, 38, 39, 40, 41, 42, 43, 44, 45, 46, 47, 48, 49, 50, 51, 52, 53, 54, 11, 55, 65, 66, 67, 68, 69, 70, 71, 72, 73, 74, 75, 76, 77, 78] (by decide +kernel) (by decide +kernel)
set_option maxRecDepth 20000 in
theorem gX6_cool_X3_nearestShade : GoodIn wsX6_cool (wsV RX6 230 RX3 yX3_nearestShade wsX3_nearestShade) := goodIn_app (goodIn_of _ (by decide +kernel)) ggX6_cool_X3_nearestShade
theorem dX6_cool_0 : decode cX6_cool 0 = .ok (.aload_n 0, 1) := by decide +kernel
theorem dX6_cool_1 : decode cX6_cool 1 = .ok (.getfield 19, 3) := by decide +kernel
theorem dX6_cool_4 : decode cX6_cool 4 = .ok (.iload_n 1, 1) := by decide +kernel
theorem dX6_cool_5 : decode cX6_cool 5 = .ok (.invokevirtual 117, 3) := by decide +kernel
theorem dX6_cool_8 : decode cX6_cool 8 = .ok (.ifCond .ne 5, 3) := by decide +kernel
theorem dX6_cool_11 : decode cX6_cool 11 = .ok (.iconst (-1), 1) := by decide +kernel
theorem dX6_cool_12 : decode cX6_cool 12 = .ok (.ireturn, 1) := by decide +kernel
theorem dX6_cool_13 : decode cX6_cool 13 = .ok (.aload_n 0, 1) := by decide +kernel
theorem dX6_cool_14 : decode cX6_cool 14 = .ok (.getfield 36, 3) := by decide +kernel
theorem dX6_cool_17 : decode cX6_cool 17 = .ok (.aload_n 0, 1) := by decide +kernel
theorem dX6_cool_18 : decode cX6_cool 18 = .ok (.getfield 19, 3) := by decide +kernel
theorem dX6_cool_21 : decode cX6_cool 21 = .ok (.aload_n 0, 1) := by decide +kernel
theorem dX6_cool_22 : decode cX6_cool 22 = .ok (.getfield 19, 3) := by decide +kernel
theorem dX6_cool_25 : decode cX6_cool 25 = .ok (.getfield 120, 3) := by decide +kernel
theorem dX6_cool_28 : decode cX6_cool 28 = .ok (.iload_n 1, 1) := by decide +kernel
theorem dX6_cool_29 : decode cX6_cool 29 = .ok (.iaload, 1) := by decide +kernel
theorem dX6_cool_30 : decode cX6_cool 30 = .ok (.invokevirtual 230, 3) := by decide +kernel
theorem dX6_cool_33 : decode cX6_cool 33 = .ok (.ireturn, 1) := by decide +kernel
set_option maxRecDepth 20000 in
theorem ggX6_dark_X0_hasCell : GoodIn wsX6_dark wsX0_hasCell := goodIn_r _ [6, 7, 8, 9, 5, 10, 11, 12, 13, 14, 15, 41, 42, 43, 44, 45, 46, 47, 48, 49, 50, 51, 52, 53, 54] (by decide +kernel) (by decide +kernel)
set_option maxRecDepth 20000 in
theorem gX6_dark_X0_hasCell : GoodIn wsX6_dark (wsV RX6 168 RX0 yX0_hasCell wsX0_hasCell) := goodIn_app (goodIn_of _ (by decide +kernel)) ggX6_dark_X0_hasCell
set_option maxRecDepth 20000 in
theorem ggX6_dark_X0_shadesAt : GoodIn wsX6_dark wsX0_shadesAt := goodIn_r _ [19, 20, 21, 22, 23, 5, 24, 25, 26, 27, 11, 28, 29, 30, 14, 31, 41, 42, 43, 44, 45, 46, 47, 48, 49, 50, 51, 52, 53, 54] (by decide +kernel) (by decide +kernel)
set_option maxRecDepth 20000 in
theorem gX6_dark_X0_shadesAt : GoodIn wsX6_dark (wsV RX6 233 RX0 yX0_shadesAt wsX0_shadesAt) := goodIn_app (goodIn_of _ (by decide +kernel)) ggX6_dark_X0_shadesAt
theorem dX6_dark_0 : decode cX6_dark 0 = .ok (.aload_n 0, 1) := by decide +kernel
theorem dX6_dark_1 : decode cX6_dark 1 = .ok (.getfield 19, 3) := by decide +kernel
theorem dX6_dark_4 : decode cX6_dark 4 = .ok (.iload_n 1, 1) := by decide +kernel
theorem dX6_dark_5 : decode cX6_dark 5 = .ok (.invokevirtual 168, 3) := by decide +kernel
theorem dX6_dark_8 : decode cX6_dark 8 = .ok (.ifCond .eq 14, 3) := by decide +kernel
theorem dX6_dark_11 : decode cX6_dark 11 = .ok (.aload_n 0, 1) := by decide +kernel
theorem dX6_dark_12 : decode cX6_dark 12 = .ok (.getfield 19, 3) := by decide +kernel
theorem dX6_dark_15 : decode cX6_dark 15 = .ok (.iload_n 1, 1) := by decide +kernel
theorem dX6_dark_16 : decode cX6_dark 16 = .ok (.invokevirtual 233, 3) := by decide +kernel
theorem dX6_dark_19 : decode cX6_dark 19 = .ok (.goto 4, 3) := by decide +kernel
theorem dX6_dark_22 : decode cX6_dark 22 = .ok (.iconst (-1), 1) := by decide +kernel
theorem dX6_dark_23 : decode cX6_dark 23 = .ok (.ireturn, 1) := by decide +kernel
set_option maxRecDepth 20000 in
theorem ggX6_rate_X0_hasTree : GoodIn wsX6_rate wsX0_hasTree := goodIn_r _ [8, 9, 10, 11, 12, 97, 98, 99, 100, 101, 102, 103, 104, 105, 106, 107, 108, 109, 110] (by decide +kernel) (by decide +kernel)
set_option maxRecDepth 20000 in
theorem gX6_rate_X0_hasTree : GoodIn wsX6_rate (wsV RX6 90 RX0 yX0_hasTree wsX0_hasTree) := goodIn_app (goodIn_of _ (by decide +kernel)) ggX6_rate_X0_hasTree
set_option maxRecDepth 20000 in
theorem ggX6_rate_X1_rateAs : GoodIn wsX6_rate wsX1_rateAs := goodIn_r _ [17, 18, 19, 20, 21, 16, 22, 23, 24, 25, 26, 27, 28, 29, 30, 31, 32, 7, 33, 34, 35, 36, 37, 38, 39, 40, 9, 41, 42, 43, 44, 45, 46, 47, 48, 49, 50, 51, 52, 53, 54, 55, 56, 57, 58, 59, 60, 61, 62, 63, 64, 65, 66, 67, 68, 69, 70, 71, 72, 73, 74, 75, 76, 77, 78, 79, 80, 81, 82, 83, 84, 85, 86, 87, 111, 97, 98, 99, 100, 101, 102, 103, 104, 105, 106, 107, 108, 109, 110] (by decide +kernel) (by decide +kernel)
set_option maxRecDepth 20000 in
theorem gX6_rate_X1_rateAs : GoodIn wsX6_rate (wsV RX6 236 RX1 yX1_rateAs wsX1_rateAs) := goodIn_app (goodIn_of _ (by decide +kernel)) ggX6_rate_X1_rateAs
theorem dX6_rate_0 : decode cX6_rate 0 = .ok (.aload_n 0, 1) := by decide +kernel
theorem dX6_rate_1 : decode cX6_rate 1 = .ok (.getfield 19, 3) := by decide +kernel
theorem dX6_rate_4 : decode cX6_rate 4 = .ok (.iload_n 2, 1) := by decide +kernel
theorem dX6_rate_5 : decode cX6_rate 5 = .ok (.invokevirtual 90, 3) := by decide +kernel
theorem dX6_rate_8 : decode cX6_rate 8 = .ok (.ifCond .eq 19, 3) := by decide +kernel
theorem dX6_rate_11 : decode cX6_rate 11 = .ok (.aload_n 0, 1) := by decide +kernel
theorem dX6_rate_12 : decode cX6_rate 12 = .ok (.getfield 50, 3) := by decide +kernel
theorem dX6_rate_15 : decode cX6_rate 15 = .ok (.iload_n 1, 1) := by decide +kernel
theorem dX6_rate_16 : decode cX6_rate 16 = .ok (.aload_n 0, 1) := by decide +kernel
theorem dX6_rate_17 : decode cX6_rate 17 = .ok (.getfield 19, 3) := by decide +kernel
theorem dX6_rate_20 : decode cX6_rate 20 = .ok (.iload_n 2, 1) := by decide +kernel
theorem dX6_rate_21 : decode cX6_rate 21 = .ok (.invokevirtual 236, 3) := by decide +kernel
theorem dX6_rate_24 : decode cX6_rate 24 = .ok (.goto 5, 3) := by decide +kernel
theorem dX6_rate_27 : decode cX6_rate 27 = .ok (.ldc 240, 2) := by decide +kernel
theorem dX6_rate_29 : decode cX6_rate 29 = .ok (.ireturn, 1) := by decide +kernel
set_option maxRecDepth 20000 in
theorem ggX6_keep_X6_isWithin : GoodIn wsX6_keep wsX6_isWithin := goodIn_r _ [8] (by decide +kernel) (by decide +kernel)
set_option maxRecDepth 20000 in
theorem gX6_keep_X6_isWithin : GoodIn wsX6_keep (va_wsS RX6 62 yX6_isWithin wsX6_isWithin) := goodIn_app (goodIn_of _ (by decide +kernel)) ggX6_keep_X6_isWithin
set_option maxRecDepth 20000 in
theorem ggX6_keep_X0_become : GoodIn wsX6_keep wsX0_become := goodIn_r _ [13, 14, 15, 16, 17, 18, 19, 20, 21, 22, 23, 24, 25, 26, 27, 37, 38, 39, 40, 41, 42, 43, 44, 45, 46, 47, 48, 49, 50] (by decide +kernel) (by decide +kernel)
set_option maxRecDepth 20000 in
theorem gX6_keep_X0_become : GoodIn wsX6_keep (wsV RX6 82 RX0 yX0_become wsX0_become) := goodIn_app (goodIn_of _ (by decide +kernel)) ggX6_keep_X0_become
theorem dX6_keep_0 : decode cX6_keep 0 = .ok (.iload_n 1, 1) := by decide +kernel
theorem dX6_keep_1 : decode cX6_keep 1 = .ok (.iconst 0, 1) := by decide +kernel
theorem dX6_keep_2 : decode cX6_keep 2 = .ok (.iconst 1, 1) := by decide +kernel
theorem dX6_keep_3 : decode cX6_keep 3 = .ok (.invokestatic 62, 3) := by decide +kernel
theorem dX6_keep_6 : decode cX6_keep 6 = .ok (.ifCond .ne 5, 3) := by decide +kernel
theorem dX6_keep_9 : decode cX6_keep 9 = .ok (.iconst (-1), 1) := by decide +kernel
theorem dX6_keep_10 : decode cX6_keep 10 = .ok (.ireturn, 1) := by decide +kernel
theorem dX6_keep_11 : decode cX6_keep 11 = .ok (.aload_n 0, 1) := by decide +kernel
theorem dX6_keep_12 : decode cX6_keep 12 = .ok (.getfield 54, 3) := by decide +kernel
theorem dX6_keep_15 : decode cX6_keep 15 = .ok (.iload_n 1, 1) := by decide +kernel
theorem dX6_keep_16 : decode cX6_keep 16 = .ok (.aaload, 1) := by decide +kernel
theorem dX6_keep_17 : decode cX6_keep 17 = .ok (.aload_n 0, 1) := by decide +kernel
theorem dX6_keep_18 : decode cX6_keep 18 = .ok (.getfield 19, 3) := by decide +kernel
theorem dX6_keep_21 : decode cX6_keep 21 = .ok (.invokevirtual 82, 3) := by decide +kernel
theorem dX6_keep_24 : decode cX6_keep 24 = .ok (.aload_n 0, 1) := by decide +kernel
theorem dX6_keep_25 : decode cX6_keep 25 = .ok (.getfield 58, 3) := by decide +kernel
theorem dX6_keep_28 : decode cX6_keep 28 = .ok (.iload_n 1, 1) := by decide +kernel
theorem dX6_keep_29 : decode cX6_keep 29 = .ok (.iconst 1, 1) := by decide +kernel
theorem dX6_keep_30 : decode cX6_keep 30 = .ok (.bastore, 1) := by decide +kernel
theorem dX6_keep_31 : decode cX6_keep 31 = .ok (.aload_n 0, 1) := by decide +kernel
theorem dX6_keep_32 : decode cX6_keep 32 = .ok (.getfield 19, 3) := by decide +kernel
theorem dX6_keep_35 : decode cX6_keep 35 = .ok (.getfield 139, 3) := by decide +kernel
theorem dX6_keep_38 : decode cX6_keep 38 = .ok (.ireturn, 1) := by decide +kernel
set_option maxRecDepth 20000 in
theorem ggX6_back_X6_isWithin : GoodIn wsX6_back wsX6_isWithin := goodIn_r _ [9] (by decide +kernel) (by decide +kernel)
set_option maxRecDepth 20000 in
theorem gX6_back_X6_isWithin : GoodIn wsX6_back (va_wsS RX6 62 yX6_isWithin wsX6_isWithin) := goodIn_app (goodIn_of _ (by decide +kernel)) ggX6_back_X6_isWithin
set_option maxRecDepth 20000 in
theorem ggX6_back_X0_become : GoodIn wsX6_back wsX0_become := goodIn_r _ [14, 15, 16, 17, 18, 19, 20, 21, 22, 23, 24, 25, 26, 27, 28, 44, 45, 46, 47, 48, 49, 50, 51, 52, 53, 54, 55, 56, 57] (by decide +kernel) (by decide +kernel)
set_option maxRecDepth 20000 in
theorem gX6_back_X0_become : GoodIn wsX6_back (wsV RX6 82 RX0 yX0_become wsX0_become) := goodIn_app (goodIn_of _ (by decide +kernel)) ggX6_back_X0_become
set_option maxRecDepth 20000 in
theorem ggX6_back_X2_lose : GoodIn wsX6_back wsX2_lose := goodIn_r _ [33, 34, 58, 59, 60] (by decide +kernel) (by decide +kernel)
set_option maxRecDepth 20000 in
theorem gX6_back_X2_lose : GoodIn wsX6_back (wsV RX6 86 RX2 yX2_lose wsX2_lose) := goodIn_app (goodIn_of _ (by decide +kernel)) ggX6_back_X2_lose
theorem dX6_back_0 : decode cX6_back 0 = .ok (.iload_n 1, 1) := by decide +kernel
theorem dX6_back_1 : decode cX6_back 1 = .ok (.iconst 0, 1) := by decide +kernel
theorem dX6_back_2 : decode cX6_back 2 = .ok (.iconst 1, 1) := by decide +kernel
theorem dX6_back_3 : decode cX6_back 3 = .ok (.invokestatic 62, 3) := by decide +kernel
theorem dX6_back_6 : decode cX6_back 6 = .ok (.ifCond .ne 5, 3) := by decide +kernel
theorem dX6_back_9 : decode cX6_back 9 = .ok (.iconst (-1), 1) := by decide +kernel
theorem dX6_back_10 : decode cX6_back 10 = .ok (.ireturn, 1) := by decide +kernel
theorem dX6_back_11 : decode cX6_back 11 = .ok (.aload_n 0, 1) := by decide +kernel
theorem dX6_back_12 : decode cX6_back 12 = .ok (.getfield 58, 3) := by decide +kernel
theorem dX6_back_15 : decode cX6_back 15 = .ok (.iload_n 1, 1) := by decide +kernel
theorem dX6_back_16 : decode cX6_back 16 = .ok (.baload, 1) := by decide +kernel
theorem dX6_back_17 : decode cX6_back 17 = .ok (.ifCond .ne 6, 3) := by decide +kernel
theorem dX6_back_20 : decode cX6_back 20 = .ok (.bipush (-2), 2) := by decide +kernel
theorem dX6_back_22 : decode cX6_back 22 = .ok (.ireturn, 1) := by decide +kernel
theorem dX6_back_23 : decode cX6_back 23 = .ok (.aload_n 0, 1) := by decide +kernel
theorem dX6_back_24 : decode cX6_back 24 = .ok (.getfield 19, 3) := by decide +kernel
theorem dX6_back_27 : decode cX6_back 27 = .ok (.aload_n 0, 1) := by decide +kernel
theorem dX6_back_28 : decode cX6_back 28 = .ok (.getfield 54, 3) := by decide +kernel
theorem dX6_back_31 : decode cX6_back 31 = .ok (.iload_n 1, 1) := by decide +kernel
theorem dX6_back_32 : decode cX6_back 32 = .ok (.aaload, 1) := by decide +kernel
theorem dX6_back_33 : decode cX6_back 33 = .ok (.invokevirtual 82, 3) := by decide +kernel
theorem dX6_back_36 : decode cX6_back 36 = .ok (.aload_n 0, 1) := by decide +kernel
theorem dX6_back_37 : decode cX6_back 37 = .ok (.getfield 29, 3) := by decide +kernel
theorem dX6_back_40 : decode cX6_back 40 = .ok (.invokevirtual 86, 3) := by decide +kernel
theorem dX6_back_43 : decode cX6_back 43 = .ok (.aload_n 0, 1) := by decide +kernel
theorem dX6_back_44 : decode cX6_back 44 = .ok (.getfield 19, 3) := by decide +kernel
theorem dX6_back_47 : decode cX6_back 47 = .ok (.getfield 139, 3) := by decide +kernel
theorem dX6_back_50 : decode cX6_back 50 = .ok (.ireturn, 1) := by decide +kernel
theorem dX6_count_0 : decode cX6_count 0 = .ok (.iload_n 1, 1) := by decide +kernel
theorem dX6_count_1 : decode cX6_count 1 = .ok (.tableswitch 75 0 4 #[35, 43, 51, 59, 67], 35) := by decide +kernel
theorem dX6_count_36 : decode cX6_count 36 = .ok (.aload_n 0, 1) := by decide +kernel
theorem dX6_count_37 : decode cX6_count 37 = .ok (.getfield 19, 3) := by decide +kernel
theorem dX6_count_40 : decode cX6_count 40 = .ok (.getfield 241, 3) := by decide +kernel
theorem dX6_count_43 : decode cX6_count 43 = .ok (.ireturn, 1) := by decide +kernel
theorem dX6_count_44 : decode cX6_count 44 = .ok (.aload_n 0, 1) := by decide +kernel
theorem dX6_count_45 : decode cX6_count 45 = .ok (.getfield 19, 3) := by decide +kernel
theorem dX6_count_48 : decode cX6_count 48 = .ok (.getfield 244, 3) := by decide +kernel
theorem dX6_count_51 : decode cX6_count 51 = .ok (.ireturn, 1) := by decide +kernel
theorem dX6_count_52 : decode cX6_count 52 = .ok (.aload_n 0, 1) := by decide +kernel
theorem dX6_count_53 : decode cX6_count 53 = .ok (.getfield 19, 3) := by decide +kernel
theorem dX6_count_56 : decode cX6_count 56 = .ok (.getfield 215, 3) := by decide +kernel
theorem dX6_count_59 : decode cX6_count 59 = .ok (.ireturn, 1) := by decide +kernel
theorem dX6_count_60 : decode cX6_count 60 = .ok (.aload_n 0, 1) := by decide +kernel
theorem dX6_count_61 : decode cX6_count 61 = .ok (.getfield 43, 3) := by decide +kernel
theorem dX6_count_64 : decode cX6_count 64 = .ok (.getfield 210, 3) := by decide +kernel
theorem dX6_count_67 : decode cX6_count 67 = .ok (.ireturn, 1) := by decide +kernel
theorem dX6_count_68 : decode cX6_count 68 = .ok (.aload_n 0, 1) := by decide +kernel
theorem dX6_count_69 : decode cX6_count 69 = .ok (.getfield 10, 3) := by decide +kernel
theorem dX6_count_72 : decode cX6_count 72 = .ok (.getfield 70, 3) := by decide +kernel
theorem dX6_count_75 : decode cX6_count 75 = .ok (.ireturn, 1) := by decide +kernel
theorem dX6_count_76 : decode cX6_count 76 = .ok (.iconst (-1), 1) := by decide +kernel
theorem dX6_count_77 : decode cX6_count 77 = .ok (.ireturn, 1) := by decide +kernel
theorem dX6_trace_0 : decode cX6_trace 0 = .ok (.aload_n 0, 1) := by decide +kernel
theorem dX6_trace_1 : decode cX6_trace 1 = .ok (.getfield 50, 3) := by decide +kernel
theorem dX6_trace_4 : decode cX6_trace 4 = .ok (.getfield 247, 3) := by decide +kernel
theorem dX6_trace_7 : decode cX6_trace 7 = .ok (.lreturn, 1) := by decide +kernel
theorem dX6_isWithin_0 : decode cX6_isWithin 0 = .ok (.iload_n 0, 1) := by decide +kernel
theorem dX6_isWithin_1 : decode cX6_isWithin 1 = .ok (.iload_n 1, 1) := by decide +kernel
theorem dX6_isWithin_2 : decode cX6_isWithin 2 = .ok (.if_icmp .lt 12, 3) := by decide +kernel
theorem dX6_isWithin_5 : decode cX6_isWithin 5 = .ok (.iload_n 0, 1) := by decide +kernel
theorem dX6_isWithin_6 : decode cX6_isWithin 6 = .ok (.iload_n 2, 1) := by decide +kernel
theorem dX6_isWithin_7 : decode cX6_isWithin 7 = .ok (.if_icmp .gt 7, 3) := by decide +kernel
theorem dX6_isWithin_10 : decode cX6_isWithin 10 = .ok (.iconst 1, 1) := by decide +kernel
theorem dX6_isWithin_11 : decode cX6_isWithin 11 = .ok (.goto 4, 3) := by decide +kernel
theorem dX6_isWithin_14 : decode cX6_isWithin 14 = .ok (.iconst 0, 1) := by decide +kernel
theorem dX6_isWithin_15 : decode cX6_isWithin 15 = .ok (.ireturn, 1) := by decide +kernel
set_option maxRecDepth 20000 in
theorem ggX6_isMotion_X6_isWithin : GoodIn wsX6_isMotion wsX6_isWithin := goodIn_r _ [4] (by decide +kernel) (by decide +kernel)
set_option maxRecDepth 20000 in
theorem gX6_isMotion_X6_isWithin : GoodIn wsX6_isMotion (va_wsS RX6 62 yX6_isWithin wsX6_isWithin) := goodIn_app (goodIn_of _ (by decide +kernel)) ggX6_isMotion_X6_isWithin
theorem dX6_isMotion_0 : decode cX6_isMotion 0 = .ok (.iload_n 0, 1) := by decide +kernel
theorem dX6_isMotion_1 : decode cX6_isMotion 1 = .ok (.iconst 0, 1) := by decide +kernel
theorem dX6_isMotion_2 : decode cX6_isMotion 2 = .ok (.iconst 2, 1) := by decide +kernel
theorem dX6_isMotion_3 : decode cX6_isMotion 3 = .ok (.invokestatic 62, 3) := by decide +kernel
theorem dX6_isMotion_6 : decode cX6_isMotion 6 = .ok (.ireturn, 1) := by decide +kernel
theorem dX6_asNumber_0 : decode cX6_asNumber 0 = .ok (.iload_n 0, 1) := by decide +kernel
theorem dX6_asNumber_1 : decode cX6_asNumber 1 = .ok (.ifCond .eq 7, 3) := by decide +kernel
theorem dX6_asNumber_4 : decode cX6_asNumber 4 = .ok (.iconst 1, 1) := by decide +kernel
theorem dX6_asNumber_5 : decode cX6_asNumber 5 = .ok (.goto 4, 3) := by decide +kernel
theorem dX6_asNumber_8 : decode cX6_asNumber 8 = .ok (.iconst 0, 1) := by decide +kernel
theorem dX6_asNumber_9 : decode cX6_asNumber 9 = .ok (.ireturn, 1) := by decide +kernel
theorem dX6_hasBit_0 : decode cX6_hasBit 0 = .ok (.iload_n 0, 1) := by decide +kernel
theorem dX6_hasBit_1 : decode cX6_hasBit 1 = .ok (.iload_n 1, 1) := by decide +kernel
theorem dX6_hasBit_2 : decode cX6_hasBit 2 = .ok (.ishr, 1) := by decide +kernel
theorem dX6_hasBit_3 : decode cX6_hasBit 3 = .ok (.iconst 1, 1) := by decide +kernel
theorem dX6_hasBit_4 : decode cX6_hasBit 4 = .ok (.iand, 1) := by decide +kernel
theorem dX6_hasBit_5 : decode cX6_hasBit 5 = .ok (.iconst 1, 1) := by decide +kernel
theorem dX6_hasBit_6 : decode cX6_hasBit 6 = .ok (.if_icmp .ne 7, 3) := by decide +kernel
theorem dX6_hasBit_9 : decode cX6_hasBit 9 = .ok (.iconst 1, 1) := by decide +kernel
theorem dX6_hasBit_10 : decode cX6_hasBit 10 = .ok (.goto 4, 3) := by decide +kernel
theorem dX6_hasBit_13 : decode cX6_hasBit 13 = .ok (.iconst 0, 1) := by decide +kernel
theorem dX6_hasBit_14 : decode cX6_hasBit 14 = .ok (.ireturn, 1) := by decide +kernel
theorem dX6_cut_0 : decode cX6_cut 0 = .ok (.iload_n 1, 1) := by decide +kernel
theorem dX6_cut_1 : decode cX6_cut 1 = .ok (.ifCond .le 9, 3) := by decide +kernel
theorem dX6_cut_4 : decode cX6_cut 4 = .ok (.iload_n 0, 1) := by decide +kernel
theorem dX6_cut_5 : decode cX6_cut 5 = .ok (.iload_n 1, 1) := by decide +kernel
theorem dX6_cut_6 : decode cX6_cut 6 = .ok (.idiv, 1) := by decide +kernel
theorem dX6_cut_7 : decode cX6_cut 7 = .ok (.goto 4, 3) := by decide +kernel
theorem dX6_cut_10 : decode cX6_cut 10 = .ok (.iconst 0, 1) := by decide +kernel
theorem dX6_cut_11 : decode cX6_cut 11 = .ok (.ireturn, 1) := by decide +kernel
theorem dX6_power_0 : decode cX6_power 0 = .ok (.iconst 1, 1) := by decide +kernel
theorem dX6_power_1 : decode cX6_power 1 = .ok (.istore_n 2, 1) := by decide +kernel
theorem dX6_power_2 : decode cX6_power 2 = .ok (.iconst 0, 1) := by decide +kernel
theorem dX6_power_3 : decode cX6_power 3 = .ok (.istore_n 3, 1) := by decide +kernel
theorem dX6_power_4 : decode cX6_power 4 = .ok (.iload_n 3, 1) := by decide +kernel
theorem dX6_power_5 : decode cX6_power 5 = .ok (.iload_n 1, 1) := by decide +kernel
theorem dX6_power_6 : decode cX6_power 6 = .ok (.if_icmp .ge 13, 3) := by decide +kernel
theorem dX6_power_9 : decode cX6_power 9 = .ok (.iload_n 2, 1) := by decide +kernel
theorem dX6_power_10 : decode cX6_power 10 = .ok (.iload_n 0, 1) := by decide +kernel
theorem dX6_power_11 : decode cX6_power 11 = .ok (.imul, 1) := by decide +kernel
theorem dX6_power_12 : decode cX6_power 12 = .ok (.istore_n 2, 1) := by decide +kernel
theorem dX6_power_13 : decode cX6_power 13 = .ok (.iinc 3 1, 3) := by decide +kernel
theorem dX6_power_16 : decode cX6_power 16 = .ok (.goto (-12), 3) := by decide +kernel
theorem dX6_power_19 : decode cX6_power 19 = .ok (.iload_n 2, 1) := by decide +kernel
theorem dX6_power_20 : decode cX6_power 20 = .ok (.ireturn, 1) := by decide +kernel
theorem dX6_commonDivisor_0 : decode cX6_commonDivisor 0 = .ok (.iload_n 0, 1) := by decide +kernel
theorem dX6_commonDivisor_1 : decode cX6_commonDivisor 1 = .ok (.istore_n 2, 1) := by decide +kernel
theorem dX6_commonDivisor_2 : decode cX6_commonDivisor 2 = .ok (.iload_n 1, 1) := by decide +kernel
theorem dX6_commonDivisor_3 : decode cX6_commonDivisor 3 = .ok (.istore_n 3, 1) := by decide +kernel
theorem dX6_commonDivisor_4 : decode cX6_commonDivisor 4 = .ok (.iconst 0, 1) := by decide +kernel
theorem dX6_commonDivisor_5 : decode cX6_commonDivisor 5 = .ok (.istore 4, 2) := by decide +kernel
theorem dX6_commonDivisor_7 : decode cX6_commonDivisor 7 = .ok (.iload 4, 2) := by decide +kernel
theorem dX6_commonDivisor_9 : decode cX6_commonDivisor 9 = .ok (.bipush 64, 2) := by decide +kernel
theorem dX6_commonDivisor_11 : decode cX6_commonDivisor 11 = .ok (.if_icmp .ge 23, 3) := by decide +kernel
theorem dX6_commonDivisor_14 : decode cX6_commonDivisor 14 = .ok (.iload_n 2, 1) := by decide +kernel
theorem dX6_commonDivisor_15 : decode cX6_commonDivisor 15 = .ok (.ifCond .le 19, 3) := by decide +kernel
theorem dX6_commonDivisor_18 : decode cX6_commonDivisor 18 = .ok (.iload_n 3, 1) := by decide +kernel
theorem dX6_commonDivisor_19 : decode cX6_commonDivisor 19 = .ok (.iload_n 2, 1) := by decide +kernel
theorem dX6_commonDivisor_20 : decode cX6_commonDivisor 20 = .ok (.irem, 1) := by decide +kernel
theorem dX6_commonDivisor_21 : decode cX6_commonDivisor 21 = .ok (.istore 5, 2) := by decide +kernel
theorem dX6_commonDivisor_23 : decode cX6_commonDivisor 23 = .ok (.iload_n 2, 1) := by decide +kernel
theorem dX6_commonDivisor_24 : decode cX6_commonDivisor 24 = .ok (.istore_n 3, 1) := by decide +kernel
theorem dX6_commonDivisor_25 : decode cX6_commonDivisor 25 = .ok (.iload 5, 2) := by decide +kernel
theorem dX6_commonDivisor_27 : decode cX6_commonDivisor 27 = .ok (.istore_n 2, 1) := by decide +kernel
theorem dX6_commonDivisor_28 : decode cX6_commonDivisor 28 = .ok (.iinc 4 1, 3) := by decide +kernel
theorem dX6_commonDivisor_31 : decode cX6_commonDivisor 31 = .ok (.goto (-24), 3) := by decide +kernel
theorem dX6_commonDivisor_34 : decode cX6_commonDivisor 34 = .ok (.iload_n 3, 1) := by decide +kernel
theorem dX6_commonDivisor_35 : decode cX6_commonDivisor 35 = .ok (.ireturn, 1) := by decide +kernel
theorem dX7_init_0 : decode cX7_init 0 = .ok (.aload_n 0, 1) := by decide +kernel
theorem dX7_init_1 : decode cX7_init 1 = .ok (.invokespecial 1, 3) := by decide +kernel
theorem dX7_init_4 : decode cX7_init 4 = .ok (.aload_n 0, 1) := by decide +kernel
theorem dX7_init_5 : decode cX7_init 5 = .ok (.sipush 200, 3) := by decide +kernel
theorem dX7_init_8 : decode cX7_init 8 = .ok (.newarray .int, 2) := by decide +kernel
theorem dX7_init_10 : decode cX7_init 10 = .ok (.putfield 7, 3) := by decide +kernel
theorem dX7_init_13 : decode cX7_init 13 = .ok (.aload_n 0, 1) := by decide +kernel
theorem dX7_init_14 : decode cX7_init 14 = .ok (.bipush 7, 2) := by decide +kernel
theorem dX7_init_16 : decode cX7_init 16 = .ok (.newarray .int, 2) := by decide +kernel
theorem dX7_init_18 : decode cX7_init 18 = .ok (.putfield 13, 3) := by decide +kernel
theorem dX7_init_21 : decode cX7_init 21 = .ok (.aload_n 0, 1) := by decide +kernel
theorem dX7_init_22 : decode cX7_init 22 = .ok (.bipush 36, 2) := by decide +kernel
theorem dX7_init_24 : decode cX7_init 24 = .ok (.newarray .int, 2) := by decide +kernel
theorem dX7_init_26 : decode cX7_init 26 = .ok (.putfield 16, 3) := by decide +kernel
theorem dX7_init_29 : decode cX7_init 29 = .ok (.aload_n 0, 1) := by decide +kernel
