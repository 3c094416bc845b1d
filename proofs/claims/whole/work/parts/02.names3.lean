theorem dX6_catchesOf_32 : decode cX6_catchesOf 32 = .ok (.istore 4, 2) := by decide +kernel
theorem dX6_catchesOf_34 : decode cX6_catchesOf 34 = .ok (.iload_n 1, 1) := by decide +kernel
theorem dX6_catchesOf_35 : decode cX6_catchesOf 35 = .ok (.tableswitch 60 1 5 #[33, 35, 43, 33, 38], 33) := by decide +kernel
theorem dX6_catchesOf_68 : decode cX6_catchesOf 68 = .ok (.iconst 0, 1) := by decide +kernel
theorem dX6_catchesOf_69 : decode cX6_catchesOf 69 = .ok (.ireturn, 1) := by decide +kernel
theorem dX6_catchesOf_70 : decode cX6_catchesOf 70 = .ok (.iload 4, 2) := by decide +kernel
theorem dX6_catchesOf_72 : decode cX6_catchesOf 72 = .ok (.ireturn, 1) := by decide +kernel
theorem dX6_catchesOf_73 : decode cX6_catchesOf 73 = .ok (.iconst 2, 1) := by decide +kernel
theorem dX6_catchesOf_74 : decode cX6_catchesOf 74 = .ok (.iload 4, 2) := by decide +kernel
theorem dX6_catchesOf_76 : decode cX6_catchesOf 76 = .ok (.imul, 1) := by decide +kernel
theorem dX6_catchesOf_77 : decode cX6_catchesOf 77 = .ok (.ireturn, 1) := by decide +kernel
theorem dX6_catchesOf_78 : decode cX6_catchesOf 78 = .ok (.aload_n 0, 1) := by decide +kernel
theorem dX6_catchesOf_79 : decode cX6_catchesOf 79 = .ok (.iload_n 2, 1) := by decide +kernel
theorem dX6_catchesOf_80 : decode cX6_catchesOf 80 = .ok (.iconst 1, 1) := by decide +kernel
theorem dX6_catchesOf_81 : decode cX6_catchesOf 81 = .ok (.invokevirtual 63, 3) := by decide +kernel
theorem dX6_catchesOf_84 : decode cX6_catchesOf 84 = .ok (.iconst 1, 1) := by decide +kernel
theorem dX6_catchesOf_85 : decode cX6_catchesOf 85 = .ok (.if_icmp .ne 8, 3) := by decide +kernel
theorem dX6_catchesOf_88 : decode cX6_catchesOf 88 = .ok (.bipush (-3), 2) := by decide +kernel
theorem dX6_catchesOf_90 : decode cX6_catchesOf 90 = .ok (.goto 4, 3) := by decide +kernel
theorem dX6_catchesOf_93 : decode cX6_catchesOf 93 = .ok (.iconst 0, 1) := by decide +kernel
theorem dX6_catchesOf_94 : decode cX6_catchesOf 94 = .ok (.ireturn, 1) := by decide +kernel
theorem dX6_catchesOf_95 : decode cX6_catchesOf 95 = .ok (.iload_n 3, 1) := by decide +kernel
theorem dX6_catchesOf_96 : decode cX6_catchesOf 96 = .ok (.ireturn, 1) := by decide +kernel
set_option maxRecDepth 20000 in
theorem ggX6_catches_X6_beside : GoodIn wsX6_catches wsX6_beside := goodIn_r _ [5, 6, 7, 8, 4, 9, 10, 11, 12, 13, 14, 23, 24, 25, 26, 27, 28, 29, 30, 31, 32, 33, 34, 35, 36, 37, 38, 39, 40, 41, 42] (by decide +kernel) (by decide +kernel)
set_option maxRecDepth 20000 in
theorem gX6_catches_X6_beside : GoodIn wsX6_catches (wsV RX6 60 RX6 yX6_beside wsX6_beside) := goodIn_app (goodIn_of _ (by decide +kernel)) ggX6_catches_X6_beside
set_option maxRecDepth 20000 in
theorem ggX6_catches_X6_its : GoodIn wsX6_catches wsX6_its := goodIn_r _ [9, 10, 23, 24, 25, 26, 27, 28, 29, 30, 31, 32, 33, 34, 35, 36, 37, 38, 39, 40, 41, 42] (by decide +kernel) (by decide +kernel)
set_option maxRecDepth 20000 in
theorem gX6_catches_X6_its : GoodIn wsX6_catches (wsV RX6 52 RX6 yX6_its wsX6_its) := goodIn_app (goodIn_of _ (by decide +kernel)) ggX6_catches_X6_its
set_option maxRecDepth 20000 in
theorem ggX6_catches_X6_catchesOf : GoodIn wsX6_catches wsX6_catchesOf := goodIn_r _ [18, 19, 20, 21, 4, 22, 10, 23, 24, 25, 26, 27, 28, 29, 30, 31, 32, 33, 34, 35, 36, 37, 38, 39, 40, 41, 42] (by decide +kernel) (by decide +kernel)
set_option maxRecDepth 20000 in
theorem gX6_catches_X6_catchesOf : GoodIn wsX6_catches (wsV RX6 69 RX6 yX6_catchesOf wsX6_catchesOf) := goodIn_app (goodIn_of _ (by decide +kernel)) ggX6_catches_X6_catchesOf
theorem dX6_catches_0 : decode cX6_catches 0 = .ok (.aload_n 0, 1) := by decide +kernel
theorem dX6_catches_1 : decode cX6_catches 1 = .ok (.iload_n 1, 1) := by decide +kernel
theorem dX6_catches_2 : decode cX6_catches 2 = .ok (.iconst (-1), 1) := by decide +kernel
theorem dX6_catches_3 : decode cX6_catches 3 = .ok (.invokevirtual 60, 3) := by decide +kernel
theorem dX6_catches_6 : decode cX6_catches 6 = .ok (.istore_n 2, 1) := by decide +kernel
theorem dX6_catches_7 : decode cX6_catches 7 = .ok (.aload_n 0, 1) := by decide +kernel
theorem dX6_catches_8 : decode cX6_catches 8 = .ok (.iload_n 1, 1) := by decide +kernel
theorem dX6_catches_9 : decode cX6_catches 9 = .ok (.iconst 1, 1) := by decide +kernel
theorem dX6_catches_10 : decode cX6_catches 10 = .ok (.invokevirtual 60, 3) := by decide +kernel
theorem dX6_catches_13 : decode cX6_catches 13 = .ok (.istore_n 3, 1) := by decide +kernel
theorem dX6_catches_14 : decode cX6_catches 14 = .ok (.aload_n 0, 1) := by decide +kernel
theorem dX6_catches_15 : decode cX6_catches 15 = .ok (.iload_n 1, 1) := by decide +kernel
theorem dX6_catches_16 : decode cX6_catches 16 = .ok (.iconst 0, 1) := by decide +kernel
theorem dX6_catches_17 : decode cX6_catches 17 = .ok (.invokevirtual 52, 3) := by decide +kernel
theorem dX6_catches_20 : decode cX6_catches 20 = .ok (.istore 4, 2) := by decide +kernel
theorem dX6_catches_22 : decode cX6_catches 22 = .ok (.iload_n 2, 1) := by decide +kernel
theorem dX6_catches_23 : decode cX6_catches 23 = .ok (.ifCond .ge 7, 3) := by decide +kernel
theorem dX6_catches_26 : decode cX6_catches 26 = .ok (.iconst 0, 1) := by decide +kernel
theorem dX6_catches_27 : decode cX6_catches 27 = .ok (.goto 15, 3) := by decide +kernel
theorem dX6_catches_30 : decode cX6_catches 30 = .ok (.aload_n 0, 1) := by decide +kernel
theorem dX6_catches_31 : decode cX6_catches 31 = .ok (.iload 4, 2) := by decide +kernel
theorem dX6_catches_33 : decode cX6_catches 33 = .ok (.aload_n 0, 1) := by decide +kernel
theorem dX6_catches_34 : decode cX6_catches 34 = .ok (.iload_n 2, 1) := by decide +kernel
theorem dX6_catches_35 : decode cX6_catches 35 = .ok (.iconst 1, 1) := by decide +kernel
theorem dX6_catches_36 : decode cX6_catches 36 = .ok (.invokevirtual 52, 3) := by decide +kernel
theorem dX6_catches_39 : decode cX6_catches 39 = .ok (.invokevirtual 69, 3) := by decide +kernel
theorem dX6_catches_42 : decode cX6_catches 42 = .ok (.iload_n 3, 1) := by decide +kernel
theorem dX6_catches_43 : decode cX6_catches 43 = .ok (.ifCond .ge 7, 3) := by decide +kernel
theorem dX6_catches_46 : decode cX6_catches 46 = .ok (.iconst 0, 1) := by decide +kernel
theorem dX6_catches_47 : decode cX6_catches 47 = .ok (.goto 15, 3) := by decide +kernel
theorem dX6_catches_50 : decode cX6_catches 50 = .ok (.aload_n 0, 1) := by decide +kernel
theorem dX6_catches_51 : decode cX6_catches 51 = .ok (.iload 4, 2) := by decide +kernel
theorem dX6_catches_53 : decode cX6_catches 53 = .ok (.aload_n 0, 1) := by decide +kernel
theorem dX6_catches_54 : decode cX6_catches 54 = .ok (.iload_n 3, 1) := by decide +kernel
theorem dX6_catches_55 : decode cX6_catches 55 = .ok (.iconst 1, 1) := by decide +kernel
theorem dX6_catches_56 : decode cX6_catches 56 = .ok (.invokevirtual 52, 3) := by decide +kernel
theorem dX6_catches_59 : decode cX6_catches 59 = .ok (.invokevirtual 69, 3) := by decide +kernel
theorem dX6_catches_62 : decode cX6_catches 62 = .ok (.iadd, 1) := by decide +kernel
theorem dX6_catches_63 : decode cX6_catches 63 = .ok (.ireturn, 1) := by decide +kernel
set_option maxRecDepth 20000 in
theorem ggX6_isTelling_X6_its : GoodIn wsX6_isTelling wsX6_its := goodIn_r _ [5, 6, 11, 12, 13, 14, 15, 16, 17, 18, 19, 20, 21, 22, 23, 24, 25, 26, 27, 28, 29, 30] (by decide +kernel) (by decide +kernel)
set_option maxRecDepth 20000 in
theorem gX6_isTelling_X6_its : GoodIn wsX6_isTelling (wsV RX6 52 RX6 yX6_its wsX6_its) := goodIn_app (goodIn_of _ (by decide +kernel)) ggX6_isTelling_X6_its
set_option maxRecDepth 20000 in
theorem ggX6_isTelling_X6_laidAt : GoodIn wsX6_isTelling wsX6_laidAt := goodIn_r _ [10, 6, 11, 12, 13, 14, 15, 16, 17, 18, 19, 20, 21, 22, 23, 24, 25, 26, 27, 28, 29, 30] (by decide +kernel) (by decide +kernel)
set_option maxRecDepth 20000 in
theorem gX6_isTelling_X6_laidAt : GoodIn wsX6_isTelling (wsV RX6 63 RX6 yX6_laidAt wsX6_laidAt) := goodIn_app (goodIn_of _ (by decide +kernel)) ggX6_isTelling_X6_laidAt
theorem dX6_isTelling_0 : decode cX6_isTelling 0 = .ok (.aload_n 0, 1) := by decide +kernel
theorem dX6_isTelling_1 : decode cX6_isTelling 1 = .ok (.aload_n 0, 1) := by decide +kernel
theorem dX6_isTelling_2 : decode cX6_isTelling 2 = .ok (.iload_n 1, 1) := by decide +kernel
theorem dX6_isTelling_3 : decode cX6_isTelling 3 = .ok (.iconst 1, 1) := by decide +kernel
theorem dX6_isTelling_4 : decode cX6_isTelling 4 = .ok (.invokevirtual 52, 3) := by decide +kernel
theorem dX6_isTelling_7 : decode cX6_isTelling 7 = .ok (.iconst 2, 1) := by decide +kernel
theorem dX6_isTelling_8 : decode cX6_isTelling 8 = .ok (.invokevirtual 63, 3) := by decide +kernel
theorem dX6_isTelling_11 : decode cX6_isTelling 11 = .ok (.ifCond .le 7, 3) := by decide +kernel
theorem dX6_isTelling_14 : decode cX6_isTelling 14 = .ok (.iconst 1, 1) := by decide +kernel
theorem dX6_isTelling_15 : decode cX6_isTelling 15 = .ok (.goto 4, 3) := by decide +kernel
theorem dX6_isTelling_18 : decode cX6_isTelling 18 = .ok (.iconst 0, 1) := by decide +kernel
theorem dX6_isTelling_19 : decode cX6_isTelling 19 = .ok (.istore_n 2, 1) := by decide +kernel
theorem dX6_isTelling_20 : decode cX6_isTelling 20 = .ok (.aload_n 0, 1) := by decide +kernel
theorem dX6_isTelling_21 : decode cX6_isTelling 21 = .ok (.iload_n 1, 1) := by decide +kernel
theorem dX6_isTelling_22 : decode cX6_isTelling 22 = .ok (.iconst 0, 1) := by decide +kernel
theorem dX6_isTelling_23 : decode cX6_isTelling 23 = .ok (.invokevirtual 52, 3) := by decide +kernel
theorem dX6_isTelling_26 : decode cX6_isTelling 26 = .ok (.tableswitch 73 1 5 #[34, 73, 55, 36, 57], 34) := by decide +kernel
theorem dX6_isTelling_60 : decode cX6_isTelling 60 = .ok (.iload_n 2, 1) := by decide +kernel
theorem dX6_isTelling_61 : decode cX6_isTelling 61 = .ok (.ireturn, 1) := by decide +kernel
theorem dX6_isTelling_62 : decode cX6_isTelling 62 = .ok (.iload_n 2, 1) := by decide +kernel
theorem dX6_isTelling_63 : decode cX6_isTelling 63 = .ok (.ifCond .eq 16, 3) := by decide +kernel
theorem dX6_isTelling_66 : decode cX6_isTelling 66 = .ok (.aload_n 0, 1) := by decide +kernel
theorem dX6_isTelling_67 : decode cX6_isTelling 67 = .ok (.iload_n 1, 1) := by decide +kernel
theorem dX6_isTelling_68 : decode cX6_isTelling 68 = .ok (.iconst 2, 1) := by decide +kernel
theorem dX6_isTelling_69 : decode cX6_isTelling 69 = .ok (.invokevirtual 52, 3) := by decide +kernel
theorem dX6_isTelling_72 : decode cX6_isTelling 72 = .ok (.ifCond .ge 7, 3) := by decide +kernel
theorem dX6_isTelling_75 : decode cX6_isTelling 75 = .ok (.iconst 1, 1) := by decide +kernel
theorem dX6_isTelling_76 : decode cX6_isTelling 76 = .ok (.goto 4, 3) := by decide +kernel
theorem dX6_isTelling_79 : decode cX6_isTelling 79 = .ok (.iconst 0, 1) := by decide +kernel
theorem dX6_isTelling_80 : decode cX6_isTelling 80 = .ok (.ireturn, 1) := by decide +kernel
theorem dX6_isTelling_81 : decode cX6_isTelling 81 = .ok (.iconst 0, 1) := by decide +kernel
theorem dX6_isTelling_82 : decode cX6_isTelling 82 = .ok (.ireturn, 1) := by decide +kernel
theorem dX6_isTelling_83 : decode cX6_isTelling 83 = .ok (.aload_n 0, 1) := by decide +kernel
theorem dX6_isTelling_84 : decode cX6_isTelling 84 = .ok (.iload_n 1, 1) := by decide +kernel
theorem dX6_isTelling_85 : decode cX6_isTelling 85 = .ok (.iconst 2, 1) := by decide +kernel
theorem dX6_isTelling_86 : decode cX6_isTelling 86 = .ok (.invokevirtual 52, 3) := by decide +kernel
theorem dX6_isTelling_89 : decode cX6_isTelling 89 = .ok (.iconst 5, 1) := by decide +kernel
theorem dX6_isTelling_90 : decode cX6_isTelling 90 = .ok (.if_icmp .lt 7, 3) := by decide +kernel
theorem dX6_isTelling_93 : decode cX6_isTelling 93 = .ok (.iconst 1, 1) := by decide +kernel
theorem dX6_isTelling_94 : decode cX6_isTelling 94 = .ok (.goto 4, 3) := by decide +kernel
theorem dX6_isTelling_97 : decode cX6_isTelling 97 = .ok (.iconst 0, 1) := by decide +kernel
theorem dX6_isTelling_98 : decode cX6_isTelling 98 = .ok (.ireturn, 1) := by decide +kernel
theorem dX6_isTelling_99 : decode cX6_isTelling 99 = .ok (.aload_n 0, 1) := by decide +kernel
theorem dX6_isTelling_100 : decode cX6_isTelling 100 = .ok (.iload_n 1, 1) := by decide +kernel
theorem dX6_isTelling_101 : decode cX6_isTelling 101 = .ok (.iconst 2, 1) := by decide +kernel
theorem dX6_isTelling_102 : decode cX6_isTelling 102 = .ok (.invokevirtual 52, 3) := by decide +kernel
theorem dX6_isTelling_105 : decode cX6_isTelling 105 = .ok (.bipush 20, 2) := by decide +kernel
theorem dX6_isTelling_107 : decode cX6_isTelling 107 = .ok (.if_icmp .lt 7, 3) := by decide +kernel
theorem dX6_isTelling_110 : decode cX6_isTelling 110 = .ok (.iconst 1, 1) := by decide +kernel
theorem dX6_isTelling_111 : decode cX6_isTelling 111 = .ok (.goto 4, 3) := by decide +kernel
theorem dX6_isTelling_114 : decode cX6_isTelling 114 = .ok (.iconst 0, 1) := by decide +kernel
theorem dX6_isTelling_115 : decode cX6_isTelling 115 = .ok (.ireturn, 1) := by decide +kernel
set_option maxRecDepth 20000 in
theorem ggX6_soreAt_X6_its : GoodIn wsX6_soreAt wsX6_its := goodIn_r _ [5, 6, 7, 8, 9, 10, 11, 12, 13, 14, 15, 16, 17, 18, 19, 20, 21, 22, 23, 24, 25, 26] (by decide +kernel) (by decide +kernel)
set_option maxRecDepth 20000 in
theorem gX6_soreAt_X6_its : GoodIn wsX6_soreAt (wsV RX6 52 RX6 yX6_its wsX6_its) := goodIn_app (goodIn_of _ (by decide +kernel)) ggX6_soreAt_X6_its
theorem dX6_soreAt_0 : decode cX6_soreAt 0 = .ok (.aload_n 0, 1) := by decide +kernel
theorem dX6_soreAt_1 : decode cX6_soreAt 1 = .ok (.iload_n 1, 1) := by decide +kernel
theorem dX6_soreAt_2 : decode cX6_soreAt 2 = .ok (.iconst 0, 1) := by decide +kernel
theorem dX6_soreAt_3 : decode cX6_soreAt 3 = .ok (.invokevirtual 52, 3) := by decide +kernel
theorem dX6_soreAt_6 : decode cX6_soreAt 6 = .ok (.tableswitch 46 1 5 #[34, 37, 43, 34, 40], 34) := by decide +kernel
theorem dX6_soreAt_40 : decode cX6_soreAt 40 = .ok (.bipush (-50), 2) := by decide +kernel
theorem dX6_soreAt_42 : decode cX6_soreAt 42 = .ok (.ireturn, 1) := by decide +kernel
theorem dX6_soreAt_43 : decode cX6_soreAt 43 = .ok (.bipush (-15), 2) := by decide +kernel
theorem dX6_soreAt_45 : decode cX6_soreAt 45 = .ok (.ireturn, 1) := by decide +kernel
theorem dX6_soreAt_46 : decode cX6_soreAt 46 = .ok (.bipush (-5), 2) := by decide +kernel
theorem dX6_soreAt_48 : decode cX6_soreAt 48 = .ok (.ireturn, 1) := by decide +kernel
theorem dX6_soreAt_49 : decode cX6_soreAt 49 = .ok (.bipush (-10), 2) := by decide +kernel
theorem dX6_soreAt_51 : decode cX6_soreAt 51 = .ok (.ireturn, 1) := by decide +kernel
theorem dX6_soreAt_52 : decode cX6_soreAt 52 = .ok (.bipush (-20), 2) := by decide +kernel
theorem dX6_soreAt_54 : decode cX6_soreAt 54 = .ok (.ireturn, 1) := by decide +kernel
set_option maxRecDepth 20000 in
theorem ggX6_isSore_X6_its : GoodIn wsX6_isSore wsX6_its := goodIn_r _ [5, 6, 11, 12, 13, 14, 15, 16, 17, 18, 19, 20, 21, 22, 23, 24, 25, 26, 27, 28, 29, 30] (by decide +kernel) (by decide +kernel)
set_option maxRecDepth 20000 in
theorem gX6_isSore_X6_its : GoodIn wsX6_isSore (wsV RX6 52 RX6 yX6_its wsX6_its) := goodIn_app (goodIn_of _ (by decide +kernel)) ggX6_isSore_X6_its
set_option maxRecDepth 20000 in
theorem ggX6_isSore_X6_soreAt : GoodIn wsX6_isSore wsX6_soreAt := goodIn_r _ [10, 1, 2, 3, 4, 5, 6, 11, 12, 13, 14, 15, 16, 17, 18, 19, 20, 21, 22, 23, 24, 25, 26, 27, 28, 29, 30] (by decide +kernel) (by decide +kernel)
set_option maxRecDepth 20000 in
theorem gX6_isSore_X6_soreAt : GoodIn wsX6_isSore (wsV RX6 72 RX6 yX6_soreAt wsX6_soreAt) := goodIn_app (goodIn_of _ (by decide +kernel)) ggX6_isSore_X6_soreAt
theorem dX6_isSore_0 : decode cX6_isSore 0 = .ok (.aload_n 0, 1) := by decide +kernel
theorem dX6_isSore_1 : decode cX6_isSore 1 = .ok (.iload_n 1, 1) := by decide +kernel
theorem dX6_isSore_2 : decode cX6_isSore 2 = .ok (.iconst 2, 1) := by decide +kernel
theorem dX6_isSore_3 : decode cX6_isSore 3 = .ok (.invokevirtual 52, 3) := by decide +kernel
theorem dX6_isSore_6 : decode cX6_isSore 6 = .ok (.aload_n 0, 1) := by decide +kernel
theorem dX6_isSore_7 : decode cX6_isSore 7 = .ok (.iload_n 1, 1) := by decide +kernel
theorem dX6_isSore_8 : decode cX6_isSore 8 = .ok (.invokevirtual 72, 3) := by decide +kernel
theorem dX6_isSore_11 : decode cX6_isSore 11 = .ok (.if_icmp .ge 7, 3) := by decide +kernel
theorem dX6_isSore_14 : decode cX6_isSore 14 = .ok (.iconst 1, 1) := by decide +kernel
theorem dX6_isSore_15 : decode cX6_isSore 15 = .ok (.goto 4, 3) := by decide +kernel
theorem dX6_isSore_18 : decode cX6_isSore 18 = .ok (.iconst 0, 1) := by decide +kernel
theorem dX6_isSore_19 : decode cX6_isSore 19 = .ok (.ireturn, 1) := by decide +kernel
set_option maxRecDepth 20000 in
theorem ggX6_soreSet_X6_isSore : GoodIn wsX6_soreSet wsX6_isSore := goodIn_r _ [6, 7, 8, 9, 5, 10, 1, 11, 12, 13, 14, 15, 16, 17, 18, 19, 20, 21, 22, 23, 24, 25, 26, 27, 28, 29, 30, 31, 32, 33, 34] (by decide +kernel) (by decide +kernel)
set_option maxRecDepth 20000 in
theorem gX6_soreSet_X6_isSore : GoodIn wsX6_soreSet (wsV RX6 75 RX6 yX6_isSore wsX6_isSore) := goodIn_app (goodIn_of _ (by decide +kernel)) ggX6_soreSet_X6_isSore
theorem dX6_soreSet_0 : decode cX6_soreSet 0 = .ok (.iconst 0, 1) := by decide +kernel
theorem dX6_soreSet_1 : decode cX6_soreSet 1 = .ok (.istore_n 1, 1) := by decide +kernel
theorem dX6_soreSet_2 : decode cX6_soreSet 2 = .ok (.iconst 0, 1) := by decide +kernel
theorem dX6_soreSet_3 : decode cX6_soreSet 3 = .ok (.istore_n 2, 1) := by decide +kernel
theorem dX6_soreSet_4 : decode cX6_soreSet 4 = .ok (.iload_n 2, 1) := by decide +kernel
theorem dX6_soreSet_5 : decode cX6_soreSet 5 = .ok (.aload_n 0, 1) := by decide +kernel
theorem dX6_soreSet_6 : decode cX6_soreSet 6 = .ok (.getfield 7, 3) := by decide +kernel
theorem dX6_soreSet_9 : decode cX6_soreSet 9 = .ok (.iconst 1, 1) := by decide +kernel
theorem dX6_soreSet_10 : decode cX6_soreSet 10 = .ok (.iaload, 1) := by decide +kernel
theorem dX6_soreSet_11 : decode cX6_soreSet 11 = .ok (.if_icmp .ge 27, 3) := by decide +kernel
theorem dX6_soreSet_14 : decode cX6_soreSet 14 = .ok (.iload_n 1, 1) := by decide +kernel
theorem dX6_soreSet_15 : decode cX6_soreSet 15 = .ok (.aload_n 0, 1) := by decide +kernel
theorem dX6_soreSet_16 : decode cX6_soreSet 16 = .ok (.iload_n 2, 1) := by decide +kernel
theorem dX6_soreSet_17 : decode cX6_soreSet 17 = .ok (.invokevirtual 75, 3) := by decide +kernel
theorem dX6_soreSet_20 : decode cX6_soreSet 20 = .ok (.ifCond .eq 9, 3) := by decide +kernel
theorem dX6_soreSet_23 : decode cX6_soreSet 23 = .ok (.iconst 1, 1) := by decide +kernel
theorem dX6_soreSet_24 : decode cX6_soreSet 24 = .ok (.iload_n 2, 1) := by decide +kernel
theorem dX6_soreSet_25 : decode cX6_soreSet 25 = .ok (.ishl, 1) := by decide +kernel
theorem dX6_soreSet_26 : decode cX6_soreSet 26 = .ok (.goto 4, 3) := by decide +kernel
theorem dX6_soreSet_29 : decode cX6_soreSet 29 = .ok (.iconst 0, 1) := by decide +kernel
theorem dX6_soreSet_30 : decode cX6_soreSet 30 = .ok (.ior, 1) := by decide +kernel
theorem dX6_soreSet_31 : decode cX6_soreSet 31 = .ok (.istore_n 1, 1) := by decide +kernel
theorem dX6_soreSet_32 : decode cX6_soreSet 32 = .ok (.iinc 2 1, 3) := by decide +kernel
theorem dX6_soreSet_35 : decode cX6_soreSet 35 = .ok (.goto (-31), 3) := by decide +kernel
theorem dX6_soreSet_38 : decode cX6_soreSet 38 = .ok (.iload_n 1, 1) := by decide +kernel
theorem dX6_soreSet_39 : decode cX6_soreSet 39 = .ok (.ireturn, 1) := by decide +kernel
set_option maxRecDepth 20000 in
theorem ggX6_lay_X6_isPlace : GoodIn wsX6_lay wsX6_isPlace := goodIn_r _ [5, 6, 7, 4, 8] (by decide +kernel) (by decide +kernel)
set_option maxRecDepth 20000 in
theorem gX6_lay_X6_isPlace : GoodIn wsX6_lay (va_wsS RX6 79 yX6_isPlace wsX6_isPlace) := goodIn_app (goodIn_of _ (by decide +kernel)) ggX6_lay_X6_isPlace
set_option maxRecDepth 20000 in
theorem ggX6_lay_X6_in : GoodIn wsX6_lay wsX6_in := goodIn_r _ [8] (by decide +kernel) (by decide +kernel)
set_option maxRecDepth 20000 in
theorem gX6_lay_X6_in : GoodIn wsX6_lay (va_wsS RX6 48 yX6_in wsX6_in) := goodIn_app (goodIn_of _ (by decide +kernel)) ggX6_lay_X6_in
set_option maxRecDepth 20000 in
theorem ggX6_lay_X6_becomes : GoodIn wsX6_lay wsX6_becomes := goodIn_r _ [12, 13, 19, 20, 21, 22, 23, 24, 25, 26, 27, 28, 29, 30, 31, 32, 33, 34, 35, 36, 37, 38] (by decide +kernel) (by decide +kernel)
set_option maxRecDepth 20000 in
theorem gX6_lay_X6_becomes : GoodIn wsX6_lay (wsV RX6 82 RX6 yX6_becomes wsX6_becomes) := goodIn_app (goodIn_of _ (by decide +kernel)) ggX6_lay_X6_becomes
set_option maxRecDepth 20000 in
theorem ggX6_lay_X6_finds : GoodIn wsX6_lay wsX6_finds := goodIn_r _ [17, 18, 1, 19, 20, 21, 22, 23, 24, 25, 26, 27, 28, 29, 30, 31, 32, 33, 34, 35, 36, 37, 38] (by decide +kernel) (by decide +kernel)
set_option maxRecDepth 20000 in
theorem gX6_lay_X6_finds : GoodIn wsX6_lay (wsV RX6 85 RX6 yX6_finds wsX6_finds) := goodIn_app (goodIn_of _ (by decide +kernel)) ggX6_lay_X6_finds
theorem dX6_lay_0 : decode cX6_lay 0 = .ok (.iload_n 1, 1) := by decide +kernel
theorem dX6_lay_1 : decode cX6_lay 1 = .ok (.invokestatic 79, 3) := by decide +kernel
theorem dX6_lay_4 : decode cX6_lay 4 = .ok (.ifCond .eq 46, 3) := by decide +kernel
theorem dX6_lay_7 : decode cX6_lay 7 = .ok (.iload_n 2, 1) := by decide +kernel
theorem dX6_lay_8 : decode cX6_lay 8 = .ok (.iconst 0, 1) := by decide +kernel
theorem dX6_lay_9 : decode cX6_lay 9 = .ok (.iconst 2, 1) := by decide +kernel
theorem dX6_lay_10 : decode cX6_lay 10 = .ok (.invokestatic 48, 3) := by decide +kernel
theorem dX6_lay_13 : decode cX6_lay 13 = .ok (.ifCond .eq 37, 3) := by decide +kernel
theorem dX6_lay_16 : decode cX6_lay 16 = .ok (.iload_n 3, 1) := by decide +kernel
theorem dX6_lay_17 : decode cX6_lay 17 = .ok (.iconst 0, 1) := by decide +kernel
theorem dX6_lay_18 : decode cX6_lay 18 = .ok (.iload_n 2, 1) := by decide +kernel
theorem dX6_lay_19 : decode cX6_lay 19 = .ok (.iconst 2, 1) := by decide +kernel
theorem dX6_lay_20 : decode cX6_lay 20 = .ok (.if_icmp .ne 8, 3) := by decide +kernel
theorem dX6_lay_23 : decode cX6_lay 23 = .ok (.bipush 9, 2) := by decide +kernel
theorem dX6_lay_25 : decode cX6_lay 25 = .ok (.goto 4, 3) := by decide +kernel
theorem dX6_lay_28 : decode cX6_lay 28 = .ok (.iconst 1, 1) := by decide +kernel
theorem dX6_lay_29 : decode cX6_lay 29 = .ok (.invokestatic 48, 3) := by decide +kernel
theorem dX6_lay_32 : decode cX6_lay 32 = .ok (.ifCond .eq 18, 3) := by decide +kernel
theorem dX6_lay_35 : decode cX6_lay 35 = .ok (.aload_n 0, 1) := by decide +kernel
theorem dX6_lay_36 : decode cX6_lay 36 = .ok (.iconst 2, 1) := by decide +kernel
theorem dX6_lay_37 : decode cX6_lay 37 = .ok (.iconst 3, 1) := by decide +kernel
theorem dX6_lay_38 : decode cX6_lay 38 = .ok (.iload_n 1, 1) := by decide +kernel
theorem dX6_lay_39 : decode cX6_lay 39 = .ok (.imul, 1) := by decide +kernel
theorem dX6_lay_40 : decode cX6_lay 40 = .ok (.iadd, 1) := by decide +kernel
theorem dX6_lay_41 : decode cX6_lay 41 = .ok (.iload_n 2, 1) := by decide +kernel
theorem dX6_lay_42 : decode cX6_lay 42 = .ok (.iadd, 1) := by decide +kernel
theorem dX6_lay_43 : decode cX6_lay 43 = .ok (.iload_n 3, 1) := by decide +kernel
theorem dX6_lay_44 : decode cX6_lay 44 = .ok (.invokevirtual 82, 3) := by decide +kernel
theorem dX6_lay_47 : decode cX6_lay 47 = .ok (.goto 9, 3) := by decide +kernel
theorem dX6_lay_50 : decode cX6_lay 50 = .ok (.aload_n 0, 1) := by decide +kernel
theorem dX6_lay_51 : decode cX6_lay 51 = .ok (.ldc 47, 2) := by decide +kernel
theorem dX6_lay_53 : decode cX6_lay 53 = .ok (.invokevirtual 85, 3) := by decide +kernel
theorem dX6_lay_56 : decode cX6_lay 56 = .ok (.ireturn, 1) := by decide +kernel
set_option maxRecDepth 20000 in
theorem ggX6_place_X6_isPlace : GoodIn wsX6_place wsX6_isPlace := goodIn_r _ [5, 6, 7, 4, 8] (by decide +kernel) (by decide +kernel)
set_option maxRecDepth 20000 in
theorem gX6_place_X6_isPlace : GoodIn wsX6_place (va_wsS RX6 79 yX6_isPlace wsX6_isPlace) := goodIn_app (goodIn_of _ (by decide +kernel)) ggX6_place_X6_isPlace
set_option maxRecDepth 20000 in
theorem ggX6_place_X6_in : GoodIn wsX6_place wsX6_in := goodIn_r _ [8] (by decide +kernel) (by decide +kernel)
set_option maxRecDepth 20000 in
theorem gX6_place_X6_in : GoodIn wsX6_place (va_wsS RX6 48 yX6_in wsX6_in) := goodIn_app (goodIn_of _ (by decide +kernel)) ggX6_place_X6_in
set_option maxRecDepth 20000 in
theorem ggX6_place_X6_finds : GoodIn wsX6_place wsX6_finds := goodIn_r _ [12, 13, 1, 27, 28, 29, 30, 31, 32, 33, 34, 35, 36, 37, 38, 39, 40, 41, 42, 43, 44, 45, 46] (by decide +kernel) (by decide +kernel)
set_option maxRecDepth 20000 in
theorem gX6_place_X6_finds : GoodIn wsX6_place (wsV RX6 85 RX6 yX6_finds wsX6_finds) := goodIn_app (goodIn_of _ (by decide +kernel)) ggX6_place_X6_finds
set_option maxRecDepth 20000 in
theorem ggX6_place_X6_laidAt : GoodIn wsX6_place wsX6_laidAt := goodIn_r _ [17, 18, 27, 28, 29, 30, 31, 32, 33, 34, 35, 36, 37, 38, 39, 40, 41, 42, 43, 44, 45, 46] (by decide +kernel) (by decide +kernel)
set_option maxRecDepth 20000 in
theorem gX6_place_X6_laidAt : GoodIn wsX6_place (wsV RX6 63 RX6 yX6_laidAt wsX6_laidAt) := goodIn_app (goodIn_of _ (by decide +kernel)) ggX6_place_X6_laidAt
set_option maxRecDepth 20000 in
theorem ggX6_place_X6_whoAt : GoodIn wsX6_place wsX6_whoAt := goodIn_r _ [22, 18, 23, 24, 25, 4, 26, 27, 28, 29, 30, 31, 32, 33, 34, 35, 36, 37, 38, 39, 40, 41, 42, 43, 44, 45, 46] (by decide +kernel) (by decide +kernel)
set_option maxRecDepth 20000 in
theorem gX6_place_X6_whoAt : GoodIn wsX6_place (wsV RX6 56 RX6 yX6_whoAt wsX6_whoAt) := goodIn_app (goodIn_of _ (by decide +kernel)) ggX6_place_X6_whoAt
theorem dX6_place_0 : decode cX6_place 0 = .ok (.iload_n 1, 1) := by decide +kernel
theorem dX6_place_1 : decode cX6_place 1 = .ok (.invokestatic 79, 3) := by decide +kernel
theorem dX6_place_4 : decode cX6_place 4 = .ok (.ifCond .eq 12, 3) := by decide +kernel
theorem dX6_place_7 : decode cX6_place 7 = .ok (.iload_n 2, 1) := by decide +kernel
theorem dX6_place_8 : decode cX6_place 8 = .ok (.iconst 0, 1) := by decide +kernel
theorem dX6_place_9 : decode cX6_place 9 = .ok (.iconst 3, 1) := by decide +kernel
theorem dX6_place_10 : decode cX6_place 10 = .ok (.invokestatic 48, 3) := by decide +kernel
theorem dX6_place_13 : decode cX6_place 13 = .ok (.ifCond .ne 10, 3) := by decide +kernel
theorem dX6_place_16 : decode cX6_place 16 = .ok (.aload_n 0, 1) := by decide +kernel
theorem dX6_place_17 : decode cX6_place 17 = .ok (.ldc 47, 2) := by decide +kernel
theorem dX6_place_19 : decode cX6_place 19 = .ok (.invokevirtual 85, 3) := by decide +kernel
theorem dX6_place_22 : decode cX6_place 22 = .ok (.ireturn, 1) := by decide +kernel
theorem dX6_place_23 : decode cX6_place 23 = .ok (.iload_n 2, 1) := by decide +kernel
theorem dX6_place_24 : decode cX6_place 24 = .ok (.iconst 3, 1) := by decide +kernel
theorem dX6_place_25 : decode cX6_place 25 = .ok (.if_icmp .ge 12, 3) := by decide +kernel
theorem dX6_place_28 : decode cX6_place 28 = .ok (.aload_n 0, 1) := by decide +kernel
theorem dX6_place_29 : decode cX6_place 29 = .ok (.iload_n 1, 1) := by decide +kernel
theorem dX6_place_30 : decode cX6_place 30 = .ok (.iload_n 2, 1) := by decide +kernel
theorem dX6_place_31 : decode cX6_place 31 = .ok (.invokevirtual 63, 3) := by decide +kernel
theorem dX6_place_34 : decode cX6_place 34 = .ok (.goto 8, 3) := by decide +kernel
theorem dX6_place_37 : decode cX6_place 37 = .ok (.aload_n 0, 1) := by decide +kernel
theorem dX6_place_38 : decode cX6_place 38 = .ok (.iload_n 1, 1) := by decide +kernel
theorem dX6_place_39 : decode cX6_place 39 = .ok (.invokevirtual 56, 3) := by decide +kernel
theorem dX6_place_42 : decode cX6_place 42 = .ok (.ireturn, 1) := by decide +kernel
set_option maxRecDepth 20000 in
theorem ggX6_sumOf_X6_its : GoodIn wsX6_sumOf wsX6_its := goodIn_r _ [6, 1, 7, 8, 9, 10, 11, 12, 13, 14, 15, 16, 17, 18, 19, 20, 21, 22, 23, 24, 25, 26] (by decide +kernel) (by decide +kernel)
set_option maxRecDepth 20000 in
theorem gX6_sumOf_X6_its : GoodIn wsX6_sumOf (wsV RX6 52 RX6 yX6_its wsX6_its) := goodIn_app (goodIn_of _ (by decide +kernel)) ggX6_sumOf_X6_its
theorem dX6_sumOf_0 : decode cX6_sumOf 0 = .ok (.iconst 0, 1) := by decide +kernel
theorem dX6_sumOf_1 : decode cX6_sumOf 1 = .ok (.istore_n 2, 1) := by decide +kernel
theorem dX6_sumOf_2 : decode cX6_sumOf 2 = .ok (.iconst 0, 1) := by decide +kernel
theorem dX6_sumOf_3 : decode cX6_sumOf 3 = .ok (.istore_n 3, 1) := by decide +kernel
theorem dX6_sumOf_4 : decode cX6_sumOf 4 = .ok (.iload_n 3, 1) := by decide +kernel
theorem dX6_sumOf_5 : decode cX6_sumOf 5 = .ok (.aload_n 0, 1) := by decide +kernel
theorem dX6_sumOf_6 : decode cX6_sumOf 6 = .ok (.getfield 7, 3) := by decide +kernel
theorem dX6_sumOf_9 : decode cX6_sumOf 9 = .ok (.iconst 1, 1) := by decide +kernel
theorem dX6_sumOf_10 : decode cX6_sumOf 10 = .ok (.iaload, 1) := by decide +kernel
theorem dX6_sumOf_11 : decode cX6_sumOf 11 = .ok (.if_icmp .ge 18, 3) := by decide +kernel
theorem dX6_sumOf_14 : decode cX6_sumOf 14 = .ok (.iload_n 2, 1) := by decide +kernel
theorem dX6_sumOf_15 : decode cX6_sumOf 15 = .ok (.aload_n 0, 1) := by decide +kernel
theorem dX6_sumOf_16 : decode cX6_sumOf 16 = .ok (.iload_n 3, 1) := by decide +kernel
theorem dX6_sumOf_17 : decode cX6_sumOf 17 = .ok (.iload_n 1, 1) := by decide +kernel
theorem dX6_sumOf_18 : decode cX6_sumOf 18 = .ok (.invokevirtual 52, 3) := by decide +kernel
theorem dX6_sumOf_21 : decode cX6_sumOf 21 = .ok (.iadd, 1) := by decide +kernel
theorem dX6_sumOf_22 : decode cX6_sumOf 22 = .ok (.istore_n 2, 1) := by decide +kernel
theorem dX6_sumOf_23 : decode cX6_sumOf 23 = .ok (.iinc 3 1, 3) := by decide +kernel
theorem dX6_sumOf_26 : decode cX6_sumOf 26 = .ok (.goto (-22), 3) := by decide +kernel
theorem dX6_sumOf_29 : decode cX6_sumOf 29 = .ok (.iload_n 2, 1) := by decide +kernel
theorem dX6_sumOf_30 : decode cX6_sumOf 30 = .ok (.ireturn, 1) := by decide +kernel
set_option maxRecDepth 20000 in
theorem ggX6_tellingSet_X6_isTelling : GoodIn wsX6_tellingSet wsX6_isTelling := goodIn_r _ [6, 7, 8, 9, 5, 10, 1, 11, 12, 13, 14, 15, 16, 17, 18, 19, 20, 21, 22, 23, 24, 25, 26, 27, 28, 29, 30, 31, 32, 33, 34] (by decide +kernel) (by decide +kernel)
set_option maxRecDepth 20000 in
theorem gX6_tellingSet_X6_isTelling : GoodIn wsX6_tellingSet (wsV RX6 88 RX6 yX6_isTelling wsX6_isTelling) := goodIn_app (goodIn_of _ (by decide +kernel)) ggX6_tellingSet_X6_isTelling
theorem dX6_tellingSet_0 : decode cX6_tellingSet 0 = .ok (.iconst 0, 1) := by decide +kernel
theorem dX6_tellingSet_1 : decode cX6_tellingSet 1 = .ok (.istore_n 1, 1) := by decide +kernel
theorem dX6_tellingSet_2 : decode cX6_tellingSet 2 = .ok (.iconst 0, 1) := by decide +kernel
theorem dX6_tellingSet_3 : decode cX6_tellingSet 3 = .ok (.istore_n 2, 1) := by decide +kernel
theorem dX6_tellingSet_4 : decode cX6_tellingSet 4 = .ok (.iload_n 2, 1) := by decide +kernel
theorem dX6_tellingSet_5 : decode cX6_tellingSet 5 = .ok (.aload_n 0, 1) := by decide +kernel
theorem dX6_tellingSet_6 : decode cX6_tellingSet 6 = .ok (.getfield 7, 3) := by decide +kernel
theorem dX6_tellingSet_9 : decode cX6_tellingSet 9 = .ok (.iconst 1, 1) := by decide +kernel
theorem dX6_tellingSet_10 : decode cX6_tellingSet 10 = .ok (.iaload, 1) := by decide +kernel
theorem dX6_tellingSet_11 : decode cX6_tellingSet 11 = .ok (.if_icmp .ge 27, 3) := by decide +kernel
theorem dX6_tellingSet_14 : decode cX6_tellingSet 14 = .ok (.iload_n 1, 1) := by decide +kernel
theorem dX6_tellingSet_15 : decode cX6_tellingSet 15 = .ok (.aload_n 0, 1) := by decide +kernel
theorem dX6_tellingSet_16 : decode cX6_tellingSet 16 = .ok (.iload_n 2, 1) := by decide +kernel
theorem dX6_tellingSet_17 : decode cX6_tellingSet 17 = .ok (.invokevirtual 88, 3) := by decide +kernel
theorem dX6_tellingSet_20 : decode cX6_tellingSet 20 = .ok (.ifCond .eq 9, 3) := by decide +kernel
theorem dX6_tellingSet_23 : decode cX6_tellingSet 23 = .ok (.iconst 1, 1) := by decide +kernel
theorem dX6_tellingSet_24 : decode cX6_tellingSet 24 = .ok (.iload_n 2, 1) := by decide +kernel
theorem dX6_tellingSet_25 : decode cX6_tellingSet 25 = .ok (.ishl, 1) := by decide +kernel
theorem dX6_tellingSet_26 : decode cX6_tellingSet 26 = .ok (.goto 4, 3) := by decide +kernel
theorem dX6_tellingSet_29 : decode cX6_tellingSet 29 = .ok (.iconst 0, 1) := by decide +kernel
theorem dX6_tellingSet_30 : decode cX6_tellingSet 30 = .ok (.ior, 1) := by decide +kernel
theorem dX6_tellingSet_31 : decode cX6_tellingSet 31 = .ok (.istore_n 1, 1) := by decide +kernel
theorem dX6_tellingSet_32 : decode cX6_tellingSet 32 = .ok (.iinc 2 1, 3) := by decide +kernel
theorem dX6_tellingSet_35 : decode cX6_tellingSet 35 = .ok (.goto (-31), 3) := by decide +kernel
theorem dX6_tellingSet_38 : decode cX6_tellingSet 38 = .ok (.iload_n 1, 1) := by decide +kernel
theorem dX6_tellingSet_39 : decode cX6_tellingSet 39 = .ok (.ireturn, 1) := by decide +kernel
set_option maxRecDepth 20000 in
theorem ggX6_now_X6_soreSet : GoodIn wsX6_now wsX6_soreSet := goodIn_r _ [7, 1, 8, 9, 10, 6, 11, 12, 13, 14, 15, 16, 17, 18, 19, 41, 42, 43, 44, 45, 46, 47, 48, 49, 50, 51, 52, 53, 54, 55, 56, 57, 58, 59, 60] (by decide +kernel) (by decide +kernel)
set_option maxRecDepth 20000 in
theorem gX6_now_X6_soreSet : GoodIn wsX6_now (wsV RX6 91 RX6 yX6_soreSet wsX6_soreSet) := goodIn_app (goodIn_of _ (by decide +kernel)) ggX6_now_X6_soreSet
set_option maxRecDepth 20000 in
theorem ggX6_now_X6_tellingSet : GoodIn wsX6_now wsX6_tellingSet := goodIn_r _ [23, 1, 24, 25, 26, 6, 27, 12, 13, 14, 15, 28, 29, 30, 31, 41, 42, 43, 44, 45, 46, 47, 48, 49, 50, 51, 52, 53, 54, 55, 56, 57, 58, 59, 60] (by decide +kernel) (by decide +kernel)
set_option maxRecDepth 20000 in
theorem gX6_now_X6_tellingSet : GoodIn wsX6_now (wsV RX6 95 RX6 yX6_tellingSet wsX6_tellingSet) := goodIn_app (goodIn_of _ (by decide +kernel)) ggX6_now_X6_tellingSet
set_option maxRecDepth 20000 in
theorem ggX6_now_X6_sumOf : GoodIn wsX6_now wsX6_sumOf := goodIn_r _ [35, 1, 12, 13, 14, 6, 15, 41, 42, 43, 44, 45, 46, 47, 48, 49, 50, 51, 52, 53, 54, 55, 56, 57, 58, 59, 60] (by decide +kernel) (by decide +kernel)
set_option maxRecDepth 20000 in
theorem gX6_now_X6_sumOf : GoodIn wsX6_now (wsV RX6 98 RX6 yX6_sumOf wsX6_sumOf) := goodIn_app (goodIn_of _ (by decide +kernel)) ggX6_now_X6_sumOf
set_option maxRecDepth 20000 in
theorem ggX6_now_X6_finds : GoodIn wsX6_now wsX6_finds := goodIn_r _ [39, 40, 2, 41, 42, 43, 44, 45, 46, 47, 48, 49, 50, 51, 52, 53, 54, 55, 56, 57, 58, 59, 60] (by decide +kernel) (by decide +kernel)
set_option maxRecDepth 20000 in
theorem gX6_now_X6_finds : GoodIn wsX6_now (wsV RX6 85 RX6 yX6_finds wsX6_finds) := goodIn_app (goodIn_of _ (by decide +kernel)) ggX6_now_X6_finds
theorem dX6_now_0 : decode cX6_now 0 = .ok (.iload_n 1, 1) := by decide +kernel
theorem dX6_now_1 : decode cX6_now 1 = .ok (.tableswitch 85 0 5 #[39, 46, 59, 64, 69, 79], 39) := by decide +kernel
theorem dX6_now_40 : decode cX6_now 40 = .ok (.aload_n 0, 1) := by decide +kernel
theorem dX6_now_41 : decode cX6_now 41 = .ok (.getfield 7, 3) := by decide +kernel
theorem dX6_now_44 : decode cX6_now 44 = .ok (.iconst 0, 1) := by decide +kernel
theorem dX6_now_45 : decode cX6_now 45 = .ok (.iaload, 1) := by decide +kernel
theorem dX6_now_46 : decode cX6_now 46 = .ok (.ireturn, 1) := by decide +kernel
theorem dX6_now_47 : decode cX6_now 47 = .ok (.aload_n 0, 1) := by decide +kernel
theorem dX6_now_48 : decode cX6_now 48 = .ok (.invokevirtual 91, 3) := by decide +kernel
theorem dX6_now_51 : decode cX6_now 51 = .ok (.ifCond .ne 7, 3) := by decide +kernel
theorem dX6_now_54 : decode cX6_now 54 = .ok (.iconst 1, 1) := by decide +kernel
theorem dX6_now_55 : decode cX6_now 55 = .ok (.goto 4, 3) := by decide +kernel
theorem dX6_now_58 : decode cX6_now 58 = .ok (.iconst 0, 1) := by decide +kernel
theorem dX6_now_59 : decode cX6_now 59 = .ok (.ireturn, 1) := by decide +kernel
theorem dX6_now_60 : decode cX6_now 60 = .ok (.aload_n 0, 1) := by decide +kernel
theorem dX6_now_61 : decode cX6_now 61 = .ok (.invokevirtual 95, 3) := by decide +kernel
theorem dX6_now_64 : decode cX6_now 64 = .ok (.ireturn, 1) := by decide +kernel
theorem dX6_now_65 : decode cX6_now 65 = .ok (.aload_n 0, 1) := by decide +kernel
theorem dX6_now_66 : decode cX6_now 66 = .ok (.invokevirtual 91, 3) := by decide +kernel
theorem dX6_now_69 : decode cX6_now 69 = .ok (.ireturn, 1) := by decide +kernel
theorem dX6_now_70 : decode cX6_now 70 = .ok (.sipush 10000, 3) := by decide +kernel
theorem dX6_now_73 : decode cX6_now 73 = .ok (.aload_n 0, 1) := by decide +kernel
theorem dX6_now_74 : decode cX6_now 74 = .ok (.iconst 2, 1) := by decide +kernel
theorem dX6_now_75 : decode cX6_now 75 = .ok (.invokevirtual 98, 3) := by decide +kernel
theorem dX6_now_78 : decode cX6_now 78 = .ok (.iadd, 1) := by decide +kernel
theorem dX6_now_79 : decode cX6_now 79 = .ok (.ireturn, 1) := by decide +kernel
theorem dX6_now_80 : decode cX6_now 80 = .ok (.aload_n 0, 1) := by decide +kernel
theorem dX6_now_81 : decode cX6_now 81 = .ok (.iconst 3, 1) := by decide +kernel
theorem dX6_now_82 : decode cX6_now 82 = .ok (.invokevirtual 98, 3) := by decide +kernel
theorem dX6_now_85 : decode cX6_now 85 = .ok (.ireturn, 1) := by decide +kernel
theorem dX6_now_86 : decode cX6_now 86 = .ok (.aload_n 0, 1) := by decide +kernel
theorem dX6_now_87 : decode cX6_now 87 = .ok (.ldc 47, 2) := by decide +kernel
theorem dX6_now_89 : decode cX6_now 89 = .ok (.invokevirtual 85, 3) := by decide +kernel
theorem dX6_now_92 : decode cX6_now 92 = .ok (.ireturn, 1) := by decide +kernel
set_option maxRecDepth 20000 in
theorem ggX6_adds_X6_puts : GoodIn wsX6_adds wsX6_puts := goodIn_r _ [6, 1, 7, 8, 9, 10, 11, 12, 13, 14, 15, 16, 17, 18, 19, 20, 21, 22, 23, 24, 25, 26] (by decide +kernel) (by decide +kernel)
set_option maxRecDepth 20000 in
theorem gX6_adds_X6_puts : GoodIn wsX6_adds (wsV RX6 101 RX6 yX6_puts wsX6_puts) := goodIn_app (goodIn_of _ (by decide +kernel)) ggX6_adds_X6_puts
theorem dX6_adds_0 : decode cX6_adds 0 = .ok (.aload_n 0, 1) := by decide +kernel
theorem dX6_adds_1 : decode cX6_adds 1 = .ok (.getfield 7, 3) := by decide +kernel
theorem dX6_adds_4 : decode cX6_adds 4 = .ok (.iconst 1, 1) := by decide +kernel
theorem dX6_adds_5 : decode cX6_adds 5 = .ok (.iaload, 1) := by decide +kernel
theorem dX6_adds_6 : decode cX6_adds 6 = .ok (.istore_n 3, 1) := by decide +kernel
theorem dX6_adds_7 : decode cX6_adds 7 = .ok (.aload_n 0, 1) := by decide +kernel
theorem dX6_adds_8 : decode cX6_adds 8 = .ok (.iload_n 3, 1) := by decide +kernel
theorem dX6_adds_9 : decode cX6_adds 9 = .ok (.iconst 0, 1) := by decide +kernel
theorem dX6_adds_10 : decode cX6_adds 10 = .ok (.iload_n 1, 1) := by decide +kernel
theorem dX6_adds_11 : decode cX6_adds 11 = .ok (.invokevirtual 101, 3) := by decide +kernel
theorem dX6_adds_14 : decode cX6_adds 14 = .ok (.aload_n 0, 1) := by decide +kernel
theorem dX6_adds_15 : decode cX6_adds 15 = .ok (.iload_n 3, 1) := by decide +kernel
theorem dX6_adds_16 : decode cX6_adds 16 = .ok (.iconst 1, 1) := by decide +kernel
theorem dX6_adds_17 : decode cX6_adds 17 = .ok (.iload_n 2, 1) := by decide +kernel
theorem dX6_adds_18 : decode cX6_adds 18 = .ok (.invokevirtual 101, 3) := by decide +kernel
theorem dX6_adds_21 : decode cX6_adds 21 = .ok (.aload_n 0, 1) := by decide +kernel
theorem dX6_adds_22 : decode cX6_adds 22 = .ok (.iload_n 3, 1) := by decide +kernel
theorem dX6_adds_23 : decode cX6_adds 23 = .ok (.iconst 2, 1) := by decide +kernel
theorem dX6_adds_24 : decode cX6_adds 24 = .ok (.iconst 0, 1) := by decide +kernel
theorem dX6_adds_25 : decode cX6_adds 25 = .ok (.invokevirtual 101, 3) := by decide +kernel
theorem dX6_adds_28 : decode cX6_adds 28 = .ok (.aload_n 0, 1) := by decide +kernel
theorem dX6_adds_29 : decode cX6_adds 29 = .ok (.iload_n 3, 1) := by decide +kernel
theorem dX6_adds_30 : decode cX6_adds 30 = .ok (.iconst 3, 1) := by decide +kernel
theorem dX6_adds_31 : decode cX6_adds 31 = .ok (.iconst 0, 1) := by decide +kernel
theorem dX6_adds_32 : decode cX6_adds 32 = .ok (.invokevirtual 101, 3) := by decide +kernel
theorem dX6_adds_35 : decode cX6_adds 35 = .ok (.aload_n 0, 1) := by decide +kernel
theorem dX6_adds_36 : decode cX6_adds 36 = .ok (.iload_n 3, 1) := by decide +kernel
theorem dX6_adds_37 : decode cX6_adds 37 = .ok (.iconst 4, 1) := by decide +kernel
theorem dX6_adds_38 : decode cX6_adds 38 = .ok (.iconst 0, 1) := by decide +kernel
theorem dX6_adds_39 : decode cX6_adds 39 = .ok (.invokevirtual 101, 3) := by decide +kernel
theorem dX6_adds_42 : decode cX6_adds 42 = .ok (.aload_n 0, 1) := by decide +kernel
theorem dX6_adds_43 : decode cX6_adds 43 = .ok (.getfield 7, 3) := by decide +kernel
theorem dX6_adds_46 : decode cX6_adds 46 = .ok (.iconst 1, 1) := by decide +kernel
theorem dX6_adds_47 : decode cX6_adds 47 = .ok (.dup2, 1) := by decide +kernel
theorem dX6_adds_48 : decode cX6_adds 48 = .ok (.iaload, 1) := by decide +kernel
theorem dX6_adds_49 : decode cX6_adds 49 = .ok (.iconst 1, 1) := by decide +kernel
theorem dX6_adds_50 : decode cX6_adds 50 = .ok (.iadd, 1) := by decide +kernel
theorem dX6_adds_51 : decode cX6_adds 51 = .ok (.iastore, 1) := by decide +kernel
theorem dX6_adds_52 : decode cX6_adds 52 = .ok (.return_, 1) := by decide +kernel
set_option maxRecDepth 20000 in
theorem ggX6_guest_X6_isKind : GoodIn wsX6_guest wsX6_isKind := goodIn_r _ [8, 9, 10, 7, 11] (by decide +kernel) (by decide +kernel)
set_option maxRecDepth 20000 in
theorem gX6_guest_X6_isKind : GoodIn wsX6_guest (va_wsS RX6 105 yX6_isKind wsX6_isKind) := goodIn_app (goodIn_of _ (by decide +kernel)) ggX6_guest_X6_isKind
set_option maxRecDepth 20000 in
theorem ggX6_guest_X6_isPlace : GoodIn wsX6_guest wsX6_isPlace := goodIn_r _ [14, 9, 10, 7, 11] (by decide +kernel) (by decide +kernel)
set_option maxRecDepth 20000 in
theorem gX6_guest_X6_isPlace : GoodIn wsX6_guest (va_wsS RX6 79 yX6_isPlace wsX6_isPlace) := goodIn_app (goodIn_of _ (by decide +kernel)) ggX6_guest_X6_isPlace
set_option maxRecDepth 20000 in
theorem ggX6_guest_X6_finds : GoodIn wsX6_guest wsX6_finds := goodIn_r _ [18, 19, 1, 36, 37, 38, 39, 40, 41, 42, 43, 44, 45, 46, 47, 48, 49, 50, 51, 52, 53, 54, 55] (by decide +kernel) (by decide +kernel)
set_option maxRecDepth 20000 in
theorem gX6_guest_X6_finds : GoodIn wsX6_guest (wsV RX6 85 RX6 yX6_finds wsX6_finds) := goodIn_app (goodIn_of _ (by decide +kernel)) ggX6_guest_X6_finds
set_option maxRecDepth 20000 in
theorem ggX6_guest_X6_whoAt : GoodIn wsX6_guest wsX6_whoAt := goodIn_r _ [23, 2, 24, 25, 26, 7, 27, 36, 37, 38, 39, 40, 41, 42, 43, 44, 45, 46, 47, 48, 49, 50, 51, 52, 53, 54, 55] (by decide +kernel) (by decide +kernel)
set_option maxRecDepth 20000 in
theorem gX6_guest_X6_whoAt : GoodIn wsX6_guest (wsV RX6 56 RX6 yX6_whoAt wsX6_whoAt) := goodIn_app (goodIn_of _ (by decide +kernel)) ggX6_guest_X6_whoAt
set_option maxRecDepth 20000 in
theorem ggX6_guest_X6_adds : GoodIn wsX6_guest wsX6_adds := goodIn_r _ [31, 2, 32, 33, 34, 7, 35, 36, 37, 38, 39, 40, 41, 42, 43, 44, 45, 46, 47, 48, 49, 50, 51, 52, 53, 54, 55] (by decide +kernel) (by decide +kernel)
set_option maxRecDepth 20000 in
theorem gX6_guest_X6_adds : GoodIn wsX6_guest (wsV RX6 110 RX6 yX6_adds wsX6_adds) := goodIn_app (goodIn_of _ (by decide +kernel)) ggX6_guest_X6_adds
theorem dX6_guest_0 : decode cX6_guest 0 = .ok (.iload_n 1, 1) := by decide +kernel
theorem dX6_guest_1 : decode cX6_guest 1 = .ok (.invokestatic 105, 3) := by decide +kernel
theorem dX6_guest_4 : decode cX6_guest 4 = .ok (.ifCond .eq 10, 3) := by decide +kernel
theorem dX6_guest_7 : decode cX6_guest 7 = .ok (.iload_n 2, 1) := by decide +kernel
theorem dX6_guest_8 : decode cX6_guest 8 = .ok (.invokestatic 79, 3) := by decide +kernel
theorem dX6_guest_11 : decode cX6_guest 11 = .ok (.ifCond .ne 10, 3) := by decide +kernel
theorem dX6_guest_14 : decode cX6_guest 14 = .ok (.aload_n 0, 1) := by decide +kernel
theorem dX6_guest_15 : decode cX6_guest 15 = .ok (.ldc 47, 2) := by decide +kernel
theorem dX6_guest_17 : decode cX6_guest 17 = .ok (.invokevirtual 85, 3) := by decide +kernel
theorem dX6_guest_20 : decode cX6_guest 20 = .ok (.ireturn, 1) := by decide +kernel
theorem dX6_guest_21 : decode cX6_guest 21 = .ok (.aload_n 0, 1) := by decide +kernel
theorem dX6_guest_22 : decode cX6_guest 22 = .ok (.getfield 7, 3) := by decide +kernel
theorem dX6_guest_25 : decode cX6_guest 25 = .ok (.iconst 1, 1) := by decide +kernel
theorem dX6_guest_26 : decode cX6_guest 26 = .ok (.iaload, 1) := by decide +kernel
theorem dX6_guest_27 : decode cX6_guest 27 = .ok (.bipush 8, 2) := by decide +kernel
theorem dX6_guest_29 : decode cX6_guest 29 = .ok (.if_icmp .ne 10, 3) := by decide +kernel
theorem dX6_guest_32 : decode cX6_guest 32 = .ok (.aload_n 0, 1) := by decide +kernel
theorem dX6_guest_33 : decode cX6_guest 33 = .ok (.ldc 108, 2) := by decide +kernel
theorem dX6_guest_35 : decode cX6_guest 35 = .ok (.invokevirtual 85, 3) := by decide +kernel
theorem dX6_guest_38 : decode cX6_guest 38 = .ok (.ireturn, 1) := by decide +kernel
theorem dX6_guest_39 : decode cX6_guest 39 = .ok (.aload_n 0, 1) := by decide +kernel
theorem dX6_guest_40 : decode cX6_guest 40 = .ok (.iload_n 2, 1) := by decide +kernel
theorem dX6_guest_41 : decode cX6_guest 41 = .ok (.invokevirtual 56, 3) := by decide +kernel
theorem dX6_guest_44 : decode cX6_guest 44 = .ok (.ifCond .lt 10, 3) := by decide +kernel
theorem dX6_guest_47 : decode cX6_guest 47 = .ok (.aload_n 0, 1) := by decide +kernel
theorem dX6_guest_48 : decode cX6_guest 48 = .ok (.ldc 109, 2) := by decide +kernel
theorem dX6_guest_50 : decode cX6_guest 50 = .ok (.invokevirtual 85, 3) := by decide +kernel
theorem dX6_guest_53 : decode cX6_guest 53 = .ok (.ireturn, 1) := by decide +kernel
theorem dX6_guest_54 : decode cX6_guest 54 = .ok (.aload_n 0, 1) := by decide +kernel
theorem dX6_guest_55 : decode cX6_guest 55 = .ok (.iload_n 1, 1) := by decide +kernel
theorem dX6_guest_56 : decode cX6_guest 56 = .ok (.iload_n 2, 1) := by decide +kernel
theorem dX6_guest_57 : decode cX6_guest 57 = .ok (.invokevirtual 110, 3) := by decide +kernel
theorem dX6_guest_60 : decode cX6_guest 60 = .ok (.aload_n 0, 1) := by decide +kernel
theorem dX6_guest_61 : decode cX6_guest 61 = .ok (.getfield 7, 3) := by decide +kernel
theorem dX6_guest_64 : decode cX6_guest 64 = .ok (.iconst 1, 1) := by decide +kernel
theorem dX6_guest_65 : decode cX6_guest 65 = .ok (.iaload, 1) := by decide +kernel
theorem dX6_guest_66 : decode cX6_guest 66 = .ok (.iconst 1, 1) := by decide +kernel
theorem dX6_guest_67 : decode cX6_guest 67 = .ok (.isub, 1) := by decide +kernel
theorem dX6_guest_68 : decode cX6_guest 68 = .ok (.ireturn, 1) := by decide +kernel
set_option maxRecDepth 20000 in
theorem ggX6_of_X6_isOne : GoodIn wsX6_of wsX6_isOne := goodIn_r _ [6, 7, 8, 9, 5, 10, 56, 57, 58, 59, 60, 61, 62, 63, 64, 65, 66, 67, 68, 69, 70, 71, 72, 73, 74, 75] (by decide +kernel) (by decide +kernel)
set_option maxRecDepth 20000 in
theorem gX6_of_X6_isOne : GoodIn wsX6_of (wsV RX6 114 RX6 yX6_isOne wsX6_isOne) := goodIn_app (goodIn_of _ (by decide +kernel)) ggX6_of_X6_isOne
set_option maxRecDepth 20000 in
theorem ggX6_of_X6_in : GoodIn wsX6_of wsX6_in := goodIn_r _ [10] (by decide +kernel) (by decide +kernel)
set_option maxRecDepth 20000 in
theorem gX6_of_X6_in : GoodIn wsX6_of (va_wsS RX6 48 yX6_in wsX6_in) := goodIn_app (goodIn_of _ (by decide +kernel)) ggX6_of_X6_in
set_option maxRecDepth 20000 in
theorem ggX6_of_X6_finds : GoodIn wsX6_of wsX6_finds := goodIn_r _ [14, 15, 1, 56, 57, 58, 59, 60, 61, 62, 63, 64, 65, 66, 67, 68, 69, 70, 71, 72, 73, 74, 75] (by decide +kernel) (by decide +kernel)
set_option maxRecDepth 20000 in
theorem gX6_of_X6_finds : GoodIn wsX6_of (wsV RX6 85 RX6 yX6_finds wsX6_finds) := goodIn_app (goodIn_of _ (by decide +kernel)) ggX6_of_X6_finds
set_option maxRecDepth 20000 in
theorem ggX6_of_X6_its : GoodIn wsX6_of wsX6_its := goodIn_r _ [19, 7, 56, 57, 58, 59, 60, 61, 62, 63, 64, 65, 66, 67, 68, 69, 70, 71, 72, 73, 74, 75] (by decide +kernel) (by decide +kernel)
set_option maxRecDepth 20000 in
theorem gX6_of_X6_its : GoodIn wsX6_of (wsV RX6 52 RX6 yX6_its wsX6_its) := goodIn_app (goodIn_of _ (by decide +kernel)) ggX6_of_X6_its
set_option maxRecDepth 20000 in
theorem ggX6_of_X6_feels : GoodIn wsX6_of wsX6_feels := goodIn_r _ [23, 16, 17, 18, 5, 19, 7, 24, 25, 26, 27, 28, 29, 30, 31, 32, 33, 34, 35, 36, 37, 38, 39, 56, 57, 58, 59, 60, 61, 62, 63, 64, 65, 66, 67, 68, 69, 70, 71, 72, 73, 74, 75] (by decide +kernel) (by decide +kernel)
set_option maxRecDepth 20000 in
theorem gX6_of_X6_feels : GoodIn wsX6_of (wsV RX6 117 RX6 yX6_feels wsX6_feels) := goodIn_app (goodIn_of _ (by decide +kernel)) ggX6_of_X6_feels
set_option maxRecDepth 20000 in
theorem ggX6_of_X6_catches : GoodIn wsX6_of wsX6_catches := goodIn_r _ [43, 32, 33, 34, 5, 35, 16, 17, 18, 19, 7, 36, 37, 38, 39, 44, 45, 46, 47, 24, 25, 26, 27, 56, 57, 58, 59, 60, 61, 62, 63, 64, 65, 66, 67, 68, 69, 70, 71, 72, 73, 74, 75] (by decide +kernel) (by decide +kernel)
set_option maxRecDepth 20000 in
theorem gX6_of_X6_catches : GoodIn wsX6_of (wsV RX6 120 RX6 yX6_catches wsX6_catches) := goodIn_app (goodIn_of _ (by decide +kernel)) ggX6_of_X6_catches
set_option maxRecDepth 20000 in
theorem ggX6_of_X6_soreAt : GoodIn wsX6_of wsX6_soreAt := goodIn_r _ [51, 16, 17, 18, 5, 19, 7, 56, 57, 58, 59, 60, 61, 62, 63, 64, 65, 66, 67, 68, 69, 70, 71, 72, 73, 74, 75] (by decide +kernel) (by decide +kernel)
set_option maxRecDepth 20000 in
theorem gX6_of_X6_soreAt : GoodIn wsX6_of (wsV RX6 72 RX6 yX6_soreAt wsX6_soreAt) := goodIn_app (goodIn_of _ (by decide +kernel)) ggX6_of_X6_soreAt
set_option maxRecDepth 20000 in
theorem ggX6_of_X6_neighbours : GoodIn wsX6_of wsX6_neighbours := goodIn_r _ [55, 32, 33, 34, 5, 35, 16, 17, 18, 19, 7, 36, 37, 38, 39, 56, 57, 58, 59, 60, 61, 62, 63, 64, 65, 66, 67, 68, 69, 70, 71, 72, 73, 74, 75] (by decide +kernel) (by decide +kernel)
set_option maxRecDepth 20000 in
theorem gX6_of_X6_neighbours : GoodIn wsX6_of (wsV RX6 123 RX6 yX6_neighbours wsX6_neighbours) := goodIn_app (goodIn_of _ (by decide +kernel)) ggX6_of_X6_neighbours
theorem dX6_of_0 : decode cX6_of 0 = .ok (.aload_n 0, 1) := by decide +kernel
theorem dX6_of_1 : decode cX6_of 1 = .ok (.iload_n 1, 1) := by decide +kernel
theorem dX6_of_2 : decode cX6_of 2 = .ok (.invokevirtual 114, 3) := by decide +kernel
theorem dX6_of_5 : decode cX6_of 5 = .ok (.ifCond .eq 13, 3) := by decide +kernel
theorem dX6_of_8 : decode cX6_of 8 = .ok (.iload_n 2, 1) := by decide +kernel
theorem dX6_of_9 : decode cX6_of 9 = .ok (.iconst 0, 1) := by decide +kernel
theorem dX6_of_10 : decode cX6_of 10 = .ok (.bipush 8, 2) := by decide +kernel
theorem dX6_of_12 : decode cX6_of 12 = .ok (.invokestatic 48, 3) := by decide +kernel
theorem dX6_of_15 : decode cX6_of 15 = .ok (.ifCond .ne 10, 3) := by decide +kernel
theorem dX6_of_18 : decode cX6_of 18 = .ok (.aload_n 0, 1) := by decide +kernel
theorem dX6_of_19 : decode cX6_of 19 = .ok (.ldc 47, 2) := by decide +kernel
theorem dX6_of_21 : decode cX6_of 21 = .ok (.invokevirtual 85, 3) := by decide +kernel
theorem dX6_of_24 : decode cX6_of 24 = .ok (.ireturn, 1) := by decide +kernel
theorem dX6_of_25 : decode cX6_of 25 = .ok (.iload_n 2, 1) := by decide +kernel
theorem dX6_of_26 : decode cX6_of 26 = .ok (.tableswitch 85 2 8 #[42, 85, 85, 52, 61, 70, 79], 42) := by decide +kernel
theorem dX6_of_68 : decode cX6_of 68 = .ok (.bipush 100, 2) := by decide +kernel
theorem dX6_of_70 : decode cX6_of 70 = .ok (.aload_n 0, 1) := by decide +kernel
theorem dX6_of_71 : decode cX6_of 71 = .ok (.iload_n 1, 1) := by decide +kernel
theorem dX6_of_72 : decode cX6_of 72 = .ok (.iconst 2, 1) := by decide +kernel
theorem dX6_of_73 : decode cX6_of 73 = .ok (.invokevirtual 52, 3) := by decide +kernel
theorem dX6_of_76 : decode cX6_of 76 = .ok (.iadd, 1) := by decide +kernel
theorem dX6_of_77 : decode cX6_of 77 = .ok (.ireturn, 1) := by decide +kernel
theorem dX6_of_78 : decode cX6_of 78 = .ok (.bipush 100, 2) := by decide +kernel
theorem dX6_of_80 : decode cX6_of 80 = .ok (.aload_n 0, 1) := by decide +kernel
theorem dX6_of_81 : decode cX6_of 81 = .ok (.iload_n 1, 1) := by decide +kernel
theorem dX6_of_82 : decode cX6_of 82 = .ok (.invokevirtual 117, 3) := by decide +kernel
theorem dX6_of_85 : decode cX6_of 85 = .ok (.iadd, 1) := by decide +kernel
theorem dX6_of_86 : decode cX6_of 86 = .ok (.ireturn, 1) := by decide +kernel
theorem dX6_of_87 : decode cX6_of 87 = .ok (.bipush 100, 2) := by decide +kernel
theorem dX6_of_89 : decode cX6_of 89 = .ok (.aload_n 0, 1) := by decide +kernel
theorem dX6_of_90 : decode cX6_of 90 = .ok (.iload_n 1, 1) := by decide +kernel
theorem dX6_of_91 : decode cX6_of 91 = .ok (.invokevirtual 120, 3) := by decide +kernel
theorem dX6_of_94 : decode cX6_of 94 = .ok (.iadd, 1) := by decide +kernel
theorem dX6_of_95 : decode cX6_of 95 = .ok (.ireturn, 1) := by decide +kernel
theorem dX6_of_96 : decode cX6_of 96 = .ok (.bipush 100, 2) := by decide +kernel
theorem dX6_of_98 : decode cX6_of 98 = .ok (.aload_n 0, 1) := by decide +kernel
theorem dX6_of_99 : decode cX6_of 99 = .ok (.iload_n 1, 1) := by decide +kernel
theorem dX6_of_100 : decode cX6_of 100 = .ok (.invokevirtual 72, 3) := by decide +kernel
theorem dX6_of_103 : decode cX6_of 103 = .ok (.iadd, 1) := by decide +kernel
theorem dX6_of_104 : decode cX6_of 104 = .ok (.ireturn, 1) := by decide +kernel
theorem dX6_of_105 : decode cX6_of 105 = .ok (.aload_n 0, 1) := by decide +kernel
theorem dX6_of_106 : decode cX6_of 106 = .ok (.iload_n 1, 1) := by decide +kernel
theorem dX6_of_107 : decode cX6_of 107 = .ok (.invokevirtual 123, 3) := by decide +kernel
theorem dX6_of_110 : decode cX6_of 110 = .ok (.ireturn, 1) := by decide +kernel
theorem dX6_of_111 : decode cX6_of 111 = .ok (.aload_n 0, 1) := by decide +kernel
theorem dX6_of_112 : decode cX6_of 112 = .ok (.iload_n 1, 1) := by decide +kernel
theorem dX6_of_113 : decode cX6_of 113 = .ok (.iload_n 2, 1) := by decide +kernel
theorem dX6_of_114 : decode cX6_of 114 = .ok (.invokevirtual 52, 3) := by decide +kernel
theorem dX6_of_117 : decode cX6_of 117 = .ok (.ireturn, 1) := by decide +kernel
set_option maxRecDepth 20000 in
theorem ggX6_isPart_X6_in : GoodIn wsX6_isPart wsX6_in := goodIn_r _ [4] (by decide +kernel) (by decide +kernel)
set_option maxRecDepth 20000 in
theorem gX6_isPart_X6_in : GoodIn wsX6_isPart (va_wsS RX6 48 yX6_in wsX6_in) := goodIn_app (goodIn_of _ (by decide +kernel)) ggX6_isPart_X6_in
theorem dX6_isPart_0 : decode cX6_isPart 0 = .ok (.iload_n 0, 1) := by decide +kernel
theorem dX6_isPart_1 : decode cX6_isPart 1 = .ok (.iconst 2, 1) := by decide +kernel
theorem dX6_isPart_2 : decode cX6_isPart 2 = .ok (.if_icmp .ne 14, 3) := by decide +kernel
theorem dX6_isPart_5 : decode cX6_isPart 5 = .ok (.iload_n 1, 1) := by decide +kernel
theorem dX6_isPart_6 : decode cX6_isPart 6 = .ok (.bipush (-99), 2) := by decide +kernel
theorem dX6_isPart_8 : decode cX6_isPart 8 = .ok (.bipush 99, 2) := by decide +kernel
theorem dX6_isPart_10 : decode cX6_isPart 10 = .ok (.invokestatic 48, 3) := by decide +kernel
theorem dX6_isPart_13 : decode cX6_isPart 13 = .ok (.goto 28, 3) := by decide +kernel
theorem dX6_isPart_16 : decode cX6_isPart 16 = .ok (.iload_n 0, 1) := by decide +kernel
theorem dX6_isPart_17 : decode cX6_isPart 17 = .ok (.iconst 3, 1) := by decide +kernel
theorem dX6_isPart_18 : decode cX6_isPart 18 = .ok (.iconst 4, 1) := by decide +kernel
theorem dX6_isPart_19 : decode cX6_isPart 19 = .ok (.invokestatic 48, 3) := by decide +kernel
theorem dX6_isPart_22 : decode cX6_isPart 22 = .ok (.ifCond .eq 18, 3) := by decide +kernel
theorem dX6_isPart_25 : decode cX6_isPart 25 = .ok (.iload_n 1, 1) := by decide +kernel
theorem dX6_isPart_26 : decode cX6_isPart 26 = .ok (.iconst 0, 1) := by decide +kernel
theorem dX6_isPart_27 : decode cX6_isPart 27 = .ok (.sipush 9999, 3) := by decide +kernel
theorem dX6_isPart_30 : decode cX6_isPart 30 = .ok (.invokestatic 48, 3) := by decide +kernel
theorem dX6_isPart_33 : decode cX6_isPart 33 = .ok (.ifCond .eq 7, 3) := by decide +kernel
theorem dX6_isPart_36 : decode cX6_isPart 36 = .ok (.iconst 1, 1) := by decide +kernel
theorem dX6_isPart_37 : decode cX6_isPart 37 = .ok (.goto 4, 3) := by decide +kernel
theorem dX6_isPart_40 : decode cX6_isPart 40 = .ok (.iconst 0, 1) := by decide +kernel
theorem dX6_isPart_41 : decode cX6_isPart 41 = .ok (.ireturn, 1) := by decide +kernel
set_option maxRecDepth 20000 in
theorem ggX6_set_X6_isOne : GoodIn wsX6_set wsX6_isOne := goodIn_r _ [6, 7, 8, 9, 5, 10, 23, 24, 25, 26, 27, 28, 29, 30, 31, 32, 33, 34, 35, 36, 37, 38, 39, 40, 41, 42] (by decide +kernel) (by decide +kernel)
set_option maxRecDepth 20000 in
theorem gX6_set_X6_isOne : GoodIn wsX6_set (wsV RX6 114 RX6 yX6_isOne wsX6_isOne) := goodIn_app (goodIn_of _ (by decide +kernel)) ggX6_set_X6_isOne
set_option maxRecDepth 20000 in
theorem ggX6_set_X6_isPart : GoodIn wsX6_set wsX6_isPart := goodIn_r _ [13, 8, 9, 5, 10] (by decide +kernel) (by decide +kernel)
set_option maxRecDepth 20000 in
theorem gX6_set_X6_isPart : GoodIn wsX6_set (va_wsS RX6 126 yX6_isPart wsX6_isPart) := goodIn_app (goodIn_of _ (by decide +kernel)) ggX6_set_X6_isPart
set_option maxRecDepth 20000 in
theorem ggX6_set_X6_becomes : GoodIn wsX6_set wsX6_becomes := goodIn_r _ [17, 7, 23, 24, 25, 26, 27, 28, 29, 30, 31, 32, 33, 34, 35, 36, 37, 38, 39, 40, 41, 42] (by decide +kernel) (by decide +kernel)
set_option maxRecDepth 20000 in
theorem gX6_set_X6_becomes : GoodIn wsX6_set (wsV RX6 82 RX6 yX6_becomes wsX6_becomes) := goodIn_app (goodIn_of _ (by decide +kernel)) ggX6_set_X6_becomes
set_option maxRecDepth 20000 in
theorem ggX6_set_X6_finds : GoodIn wsX6_set wsX6_finds := goodIn_r _ [21, 22, 1, 23, 24, 25, 26, 27, 28, 29, 30, 31, 32, 33, 34, 35, 36, 37, 38, 39, 40, 41, 42] (by decide +kernel) (by decide +kernel)
set_option maxRecDepth 20000 in
theorem gX6_set_X6_finds : GoodIn wsX6_set (wsV RX6 85 RX6 yX6_finds wsX6_finds) := goodIn_app (goodIn_of _ (by decide +kernel)) ggX6_set_X6_finds
theorem dX6_set_0 : decode cX6_set 0 = .ok (.aload_n 0, 1) := by decide +kernel
theorem dX6_set_1 : decode cX6_set 1 = .ok (.iload_n 1, 1) := by decide +kernel
theorem dX6_set_2 : decode cX6_set 2 = .ok (.invokevirtual 114, 3) := by decide +kernel
theorem dX6_set_5 : decode cX6_set 5 = .ok (.ifCond .eq 27, 3) := by decide +kernel
theorem dX6_set_8 : decode cX6_set 8 = .ok (.iload_n 2, 1) := by decide +kernel
theorem dX6_set_9 : decode cX6_set 9 = .ok (.iload_n 3, 1) := by decide +kernel
theorem dX6_set_10 : decode cX6_set 10 = .ok (.invokestatic 126, 3) := by decide +kernel
theorem dX6_set_13 : decode cX6_set 13 = .ok (.ifCond .eq 19, 3) := by decide +kernel
theorem dX6_set_16 : decode cX6_set 16 = .ok (.aload_n 0, 1) := by decide +kernel
theorem dX6_set_17 : decode cX6_set 17 = .ok (.bipush 32, 2) := by decide +kernel
theorem dX6_set_19 : decode cX6_set 19 = .ok (.iconst 5, 1) := by decide +kernel
theorem dX6_set_20 : decode cX6_set 20 = .ok (.iload_n 1, 1) := by decide +kernel
theorem dX6_set_21 : decode cX6_set 21 = .ok (.imul, 1) := by decide +kernel
theorem dX6_set_22 : decode cX6_set 22 = .ok (.iadd, 1) := by decide +kernel
theorem dX6_set_23 : decode cX6_set 23 = .ok (.iload_n 2, 1) := by decide +kernel
theorem dX6_set_24 : decode cX6_set 24 = .ok (.iadd, 1) := by decide +kernel
theorem dX6_set_25 : decode cX6_set 25 = .ok (.iload_n 3, 1) := by decide +kernel
theorem dX6_set_26 : decode cX6_set 26 = .ok (.invokevirtual 82, 3) := by decide +kernel
theorem dX6_set_29 : decode cX6_set 29 = .ok (.goto 9, 3) := by decide +kernel
theorem dX6_set_32 : decode cX6_set 32 = .ok (.aload_n 0, 1) := by decide +kernel
theorem dX6_set_33 : decode cX6_set 33 = .ok (.ldc 47, 2) := by decide +kernel
theorem dX6_set_35 : decode cX6_set 35 = .ok (.invokevirtual 85, 3) := by decide +kernel
theorem dX6_set_38 : decode cX6_set 38 = .ok (.ireturn, 1) := by decide +kernel
set_option maxRecDepth 20000 in
theorem ggX6_seat_X6_isOne : GoodIn wsX6_seat wsX6_isOne := goodIn_r _ [7, 8, 9, 10, 6, 11, 32, 33, 34, 35, 36, 37, 38, 39, 40, 41, 42, 43, 44, 45, 46, 47, 48, 49, 50, 51] (by decide +kernel) (by decide +kernel)
set_option maxRecDepth 20000 in
theorem gX6_seat_X6_isOne : GoodIn wsX6_seat (wsV RX6 114 RX6 yX6_isOne wsX6_isOne) := goodIn_app (goodIn_of _ (by decide +kernel)) ggX6_seat_X6_isOne
set_option maxRecDepth 20000 in
theorem ggX6_seat_X6_isPlace : GoodIn wsX6_seat wsX6_isPlace := goodIn_r _ [14, 9, 10, 6, 11] (by decide +kernel) (by decide +kernel)
set_option maxRecDepth 20000 in
theorem gX6_seat_X6_isPlace : GoodIn wsX6_seat (va_wsS RX6 79 yX6_isPlace wsX6_isPlace) := goodIn_app (goodIn_of _ (by decide +kernel)) ggX6_seat_X6_isPlace
set_option maxRecDepth 20000 in
theorem ggX6_seat_X6_finds : GoodIn wsX6_seat wsX6_finds := goodIn_r _ [18, 19, 1, 32, 33, 34, 35, 36, 37, 38, 39, 40, 41, 42, 43, 44, 45, 46, 47, 48, 49, 50, 51] (by decide +kernel) (by decide +kernel)
set_option maxRecDepth 20000 in
theorem gX6_seat_X6_finds : GoodIn wsX6_seat (wsV RX6 85 RX6 yX6_finds wsX6_finds) := goodIn_app (goodIn_of _ (by decide +kernel)) ggX6_seat_X6_finds
set_option maxRecDepth 20000 in
theorem ggX6_seat_X6_whoAt : GoodIn wsX6_seat wsX6_whoAt := goodIn_r _ [23, 8, 24, 25, 26, 6, 27, 32, 33, 34, 35, 36, 37, 38, 39, 40, 41, 42, 43, 44, 45, 46, 47, 48, 49, 50, 51] (by decide +kernel) (by decide +kernel)
set_option maxRecDepth 20000 in
theorem gX6_seat_X6_whoAt : GoodIn wsX6_seat (wsV RX6 56 RX6 yX6_whoAt wsX6_whoAt) := goodIn_app (goodIn_of _ (by decide +kernel)) ggX6_seat_X6_whoAt
set_option maxRecDepth 20000 in
theorem ggX6_seat_X6_becomes : GoodIn wsX6_seat wsX6_becomes := goodIn_r _ [31, 8, 32, 33, 34, 35, 36, 37, 38, 39, 40, 41, 42, 43, 44, 45, 46, 47, 48, 49, 50, 51] (by decide +kernel) (by decide +kernel)
set_option maxRecDepth 20000 in
theorem gX6_seat_X6_becomes : GoodIn wsX6_seat (wsV RX6 82 RX6 yX6_becomes wsX6_becomes) := goodIn_app (goodIn_of _ (by decide +kernel)) ggX6_seat_X6_becomes
theorem dX6_seat_0 : decode cX6_seat 0 = .ok (.aload_n 0, 1) := by decide +kernel
theorem dX6_seat_1 : decode cX6_seat 1 = .ok (.iload_n 1, 1) := by decide +kernel
theorem dX6_seat_2 : decode cX6_seat 2 = .ok (.invokevirtual 114, 3) := by decide +kernel
theorem dX6_seat_5 : decode cX6_seat 5 = .ok (.ifCond .eq 10, 3) := by decide +kernel
theorem dX6_seat_8 : decode cX6_seat 8 = .ok (.iload_n 2, 1) := by decide +kernel
theorem dX6_seat_9 : decode cX6_seat 9 = .ok (.invokestatic 79, 3) := by decide +kernel
theorem dX6_seat_12 : decode cX6_seat 12 = .ok (.ifCond .ne 10, 3) := by decide +kernel
theorem dX6_seat_15 : decode cX6_seat 15 = .ok (.aload_n 0, 1) := by decide +kernel
theorem dX6_seat_16 : decode cX6_seat 16 = .ok (.ldc 47, 2) := by decide +kernel
theorem dX6_seat_18 : decode cX6_seat 18 = .ok (.invokevirtual 85, 3) := by decide +kernel
theorem dX6_seat_21 : decode cX6_seat 21 = .ok (.ireturn, 1) := by decide +kernel
theorem dX6_seat_22 : decode cX6_seat 22 = .ok (.aload_n 0, 1) := by decide +kernel
theorem dX6_seat_23 : decode cX6_seat 23 = .ok (.iload_n 2, 1) := by decide +kernel
theorem dX6_seat_24 : decode cX6_seat 24 = .ok (.invokevirtual 56, 3) := by decide +kernel
theorem dX6_seat_27 : decode cX6_seat 27 = .ok (.istore_n 3, 1) := by decide +kernel
theorem dX6_seat_28 : decode cX6_seat 28 = .ok (.iload_n 3, 1) := by decide +kernel
theorem dX6_seat_29 : decode cX6_seat 29 = .ok (.ifCond .lt 17, 3) := by decide +kernel
theorem dX6_seat_32 : decode cX6_seat 32 = .ok (.iload_n 3, 1) := by decide +kernel
theorem dX6_seat_33 : decode cX6_seat 33 = .ok (.iload_n 1, 1) := by decide +kernel
theorem dX6_seat_34 : decode cX6_seat 34 = .ok (.if_icmp .eq 12, 3) := by decide +kernel
theorem dX6_seat_37 : decode cX6_seat 37 = .ok (.aload_n 0, 1) := by decide +kernel
theorem dX6_seat_38 : decode cX6_seat 38 = .ok (.ldc 109, 2) := by decide +kernel
theorem dX6_seat_40 : decode cX6_seat 40 = .ok (.invokevirtual 85, 3) := by decide +kernel
theorem dX6_seat_43 : decode cX6_seat 43 = .ok (.goto 16, 3) := by decide +kernel
theorem dX6_seat_46 : decode cX6_seat 46 = .ok (.aload_n 0, 1) := by decide +kernel
theorem dX6_seat_47 : decode cX6_seat 47 = .ok (.bipush 32, 2) := by decide +kernel
theorem dX6_seat_49 : decode cX6_seat 49 = .ok (.iconst 5, 1) := by decide +kernel
theorem dX6_seat_50 : decode cX6_seat 50 = .ok (.iload_n 1, 1) := by decide +kernel
theorem dX6_seat_51 : decode cX6_seat 51 = .ok (.imul, 1) := by decide +kernel
theorem dX6_seat_52 : decode cX6_seat 52 = .ok (.iadd, 1) := by decide +kernel
theorem dX6_seat_53 : decode cX6_seat 53 = .ok (.iconst 1, 1) := by decide +kernel
theorem dX6_seat_54 : decode cX6_seat 54 = .ok (.iadd, 1) := by decide +kernel
theorem dX6_seat_55 : decode cX6_seat 55 = .ok (.iload_n 2, 1) := by decide +kernel
theorem dX6_seat_56 : decode cX6_seat 56 = .ok (.invokevirtual 82, 3) := by decide +kernel
theorem dX6_seat_59 : decode cX6_seat 59 = .ok (.ireturn, 1) := by decide +kernel
set_option maxRecDepth 20000 in
theorem ggX6_swaps_X6_its : GoodIn wsX6_swaps wsX6_its := goodIn_r _ [5, 6, 11, 12, 13, 14, 15, 16, 17, 18, 19, 20, 21, 22, 23, 24, 25, 26, 27, 28, 29, 30] (by decide +kernel) (by decide +kernel)
set_option maxRecDepth 20000 in
theorem gX6_swaps_X6_its : GoodIn wsX6_swaps (wsV RX6 52 RX6 yX6_its wsX6_its) := goodIn_app (goodIn_of _ (by decide +kernel)) ggX6_swaps_X6_its
set_option maxRecDepth 20000 in
theorem ggX6_swaps_X6_puts : GoodIn wsX6_swaps wsX6_puts := goodIn_r _ [10, 6, 11, 12, 13, 14, 15, 16, 17, 18, 19, 20, 21, 22, 23, 24, 25, 26, 27, 28, 29, 30] (by decide +kernel) (by decide +kernel)
set_option maxRecDepth 20000 in
theorem gX6_swaps_X6_puts : GoodIn wsX6_swaps (wsV RX6 101 RX6 yX6_puts wsX6_puts) := goodIn_app (goodIn_of _ (by decide +kernel)) ggX6_swaps_X6_puts
theorem dX6_swaps_0 : decode cX6_swaps 0 = .ok (.aload_n 0, 1) := by decide +kernel
theorem dX6_swaps_1 : decode cX6_swaps 1 = .ok (.iload_n 1, 1) := by decide +kernel
theorem dX6_swaps_2 : decode cX6_swaps 2 = .ok (.iconst 1, 1) := by decide +kernel
theorem dX6_swaps_3 : decode cX6_swaps 3 = .ok (.invokevirtual 52, 3) := by decide +kernel
theorem dX6_swaps_6 : decode cX6_swaps 6 = .ok (.istore_n 3, 1) := by decide +kernel
theorem dX6_swaps_7 : decode cX6_swaps 7 = .ok (.aload_n 0, 1) := by decide +kernel
theorem dX6_swaps_8 : decode cX6_swaps 8 = .ok (.iload_n 1, 1) := by decide +kernel
theorem dX6_swaps_9 : decode cX6_swaps 9 = .ok (.iconst 1, 1) := by decide +kernel
theorem dX6_swaps_10 : decode cX6_swaps 10 = .ok (.aload_n 0, 1) := by decide +kernel
theorem dX6_swaps_11 : decode cX6_swaps 11 = .ok (.iload_n 2, 1) := by decide +kernel
theorem dX6_swaps_12 : decode cX6_swaps 12 = .ok (.iconst 1, 1) := by decide +kernel
theorem dX6_swaps_13 : decode cX6_swaps 13 = .ok (.invokevirtual 52, 3) := by decide +kernel
theorem dX6_swaps_16 : decode cX6_swaps 16 = .ok (.invokevirtual 101, 3) := by decide +kernel
theorem dX6_swaps_19 : decode cX6_swaps 19 = .ok (.aload_n 0, 1) := by decide +kernel
theorem dX6_swaps_20 : decode cX6_swaps 20 = .ok (.iload_n 2, 1) := by decide +kernel
theorem dX6_swaps_21 : decode cX6_swaps 21 = .ok (.iconst 1, 1) := by decide +kernel
theorem dX6_swaps_22 : decode cX6_swaps 22 = .ok (.iload_n 3, 1) := by decide +kernel
theorem dX6_swaps_23 : decode cX6_swaps 23 = .ok (.invokevirtual 101, 3) := by decide +kernel
theorem dX6_swaps_26 : decode cX6_swaps 26 = .ok (.return_, 1) := by decide +kernel
set_option maxRecDepth 20000 in
theorem ggX6_swap_X6_isOne : GoodIn wsX6_swap wsX6_isOne := goodIn_r _ [6, 7, 8, 9, 5, 10, 28, 29, 30, 31, 32, 33, 34, 35, 36, 37, 38, 39, 40, 41, 42, 43, 44, 45, 46, 47] (by decide +kernel) (by decide +kernel)
set_option maxRecDepth 20000 in
theorem gX6_swap_X6_isOne : GoodIn wsX6_swap (wsV RX6 114 RX6 yX6_isOne wsX6_isOne) := goodIn_app (goodIn_of _ (by decide +kernel)) ggX6_swap_X6_isOne
set_option maxRecDepth 20000 in
theorem ggX6_swap_X6_finds : GoodIn wsX6_swap wsX6_finds := goodIn_r _ [14, 15, 1, 28, 29, 30, 31, 32, 33, 34, 35, 36, 37, 38, 39, 40, 41, 42, 43, 44, 45, 46, 47] (by decide +kernel) (by decide +kernel)
set_option maxRecDepth 20000 in
theorem gX6_swap_X6_finds : GoodIn wsX6_swap (wsV RX6 85 RX6 yX6_finds wsX6_finds) := goodIn_app (goodIn_of _ (by decide +kernel)) ggX6_swap_X6_finds
set_option maxRecDepth 20000 in
theorem ggX6_swap_X6_swaps : GoodIn wsX6_swap wsX6_swaps := goodIn_r _ [19, 20, 21, 22, 5, 23, 7, 24, 25, 26, 27, 28, 29, 30, 31, 32, 33, 34, 35, 36, 37, 38, 39, 40, 41, 42, 43, 44, 45, 46, 47] (by decide +kernel) (by decide +kernel)
set_option maxRecDepth 20000 in
theorem gX6_swap_X6_swaps : GoodIn wsX6_swap (wsV RX6 130 RX6 yX6_swaps wsX6_swaps) := goodIn_app (goodIn_of _ (by decide +kernel)) ggX6_swap_X6_swaps
theorem dX6_swap_0 : decode cX6_swap 0 = .ok (.aload_n 0, 1) := by decide +kernel
theorem dX6_swap_1 : decode cX6_swap 1 = .ok (.iload_n 1, 1) := by decide +kernel
theorem dX6_swap_2 : decode cX6_swap 2 = .ok (.invokevirtual 114, 3) := by decide +kernel
theorem dX6_swap_5 : decode cX6_swap 5 = .ok (.ifCond .eq 16, 3) := by decide +kernel
theorem dX6_swap_8 : decode cX6_swap 8 = .ok (.aload_n 0, 1) := by decide +kernel
theorem dX6_swap_9 : decode cX6_swap 9 = .ok (.iload_n 2, 1) := by decide +kernel
theorem dX6_swap_10 : decode cX6_swap 10 = .ok (.invokevirtual 114, 3) := by decide +kernel
theorem dX6_swap_13 : decode cX6_swap 13 = .ok (.ifCond .eq 8, 3) := by decide +kernel
theorem dX6_swap_16 : decode cX6_swap 16 = .ok (.iload_n 1, 1) := by decide +kernel
theorem dX6_swap_17 : decode cX6_swap 17 = .ok (.iload_n 2, 1) := by decide +kernel
theorem dX6_swap_18 : decode cX6_swap 18 = .ok (.if_icmp .ne 10, 3) := by decide +kernel
theorem dX6_swap_21 : decode cX6_swap 21 = .ok (.aload_n 0, 1) := by decide +kernel
theorem dX6_swap_22 : decode cX6_swap 22 = .ok (.ldc 47, 2) := by decide +kernel
theorem dX6_swap_24 : decode cX6_swap 24 = .ok (.invokevirtual 85, 3) := by decide +kernel
theorem dX6_swap_27 : decode cX6_swap 27 = .ok (.ireturn, 1) := by decide +kernel
theorem dX6_swap_28 : decode cX6_swap 28 = .ok (.aload_n 0, 1) := by decide +kernel
theorem dX6_swap_29 : decode cX6_swap 29 = .ok (.iload_n 1, 1) := by decide +kernel
theorem dX6_swap_30 : decode cX6_swap 30 = .ok (.iload_n 2, 1) := by decide +kernel
theorem dX6_swap_31 : decode cX6_swap 31 = .ok (.invokevirtual 130, 3) := by decide +kernel
theorem dX6_swap_34 : decode cX6_swap 34 = .ok (.iconst 1, 1) := by decide +kernel
theorem dX6_swap_35 : decode cX6_swap 35 = .ok (.ireturn, 1) := by decide +kernel
set_option maxRecDepth 20000 in
theorem ggX6_turn_X6_isOne : GoodIn wsX6_turn wsX6_isOne := goodIn_r _ [6, 7, 8, 9, 5, 10, 23, 24, 25, 26, 27, 28, 29, 30, 31, 32, 33, 34, 35, 36, 37, 38, 39, 40, 41, 42] (by decide +kernel) (by decide +kernel)
set_option maxRecDepth 20000 in
theorem gX6_turn_X6_isOne : GoodIn wsX6_turn (wsV RX6 114 RX6 yX6_isOne wsX6_isOne) := goodIn_app (goodIn_of _ (by decide +kernel)) ggX6_turn_X6_isOne
set_option maxRecDepth 20000 in
theorem ggX6_turn_X6_isKind : GoodIn wsX6_turn wsX6_isKind := goodIn_r _ [13, 8, 9, 5, 10] (by decide +kernel) (by decide +kernel)
set_option maxRecDepth 20000 in
theorem gX6_turn_X6_isKind : GoodIn wsX6_turn (va_wsS RX6 105 yX6_isKind wsX6_isKind) := goodIn_app (goodIn_of _ (by decide +kernel)) ggX6_turn_X6_isKind
set_option maxRecDepth 20000 in
theorem ggX6_turn_X6_becomes : GoodIn wsX6_turn wsX6_becomes := goodIn_r _ [17, 7, 23, 24, 25, 26, 27, 28, 29, 30, 31, 32, 33, 34, 35, 36, 37, 38, 39, 40, 41, 42] (by decide +kernel) (by decide +kernel)
set_option maxRecDepth 20000 in
theorem gX6_turn_X6_becomes : GoodIn wsX6_turn (wsV RX6 82 RX6 yX6_becomes wsX6_becomes) := goodIn_app (goodIn_of _ (by decide +kernel)) ggX6_turn_X6_becomes
set_option maxRecDepth 20000 in
theorem ggX6_turn_X6_finds : GoodIn wsX6_turn wsX6_finds := goodIn_r _ [21, 22, 1, 23, 24, 25, 26, 27, 28, 29, 30, 31, 32, 33, 34, 35, 36, 37, 38, 39, 40, 41, 42] (by decide +kernel) (by decide +kernel)
set_option maxRecDepth 20000 in
theorem gX6_turn_X6_finds : GoodIn wsX6_turn (wsV RX6 85 RX6 yX6_finds wsX6_finds) := goodIn_app (goodIn_of _ (by decide +kernel)) ggX6_turn_X6_finds
theorem dX6_turn_0 : decode cX6_turn 0 = .ok (.aload_n 0, 1) := by decide +kernel
theorem dX6_turn_1 : decode cX6_turn 1 = .ok (.iload_n 1, 1) := by decide +kernel
theorem dX6_turn_2 : decode cX6_turn 2 = .ok (.invokevirtual 114, 3) := by decide +kernel
theorem dX6_turn_5 : decode cX6_turn 5 = .ok (.ifCond .eq 24, 3) := by decide +kernel
theorem dX6_turn_8 : decode cX6_turn 8 = .ok (.iload_n 2, 1) := by decide +kernel
theorem dX6_turn_9 : decode cX6_turn 9 = .ok (.invokestatic 105, 3) := by decide +kernel
theorem dX6_turn_12 : decode cX6_turn 12 = .ok (.ifCond .eq 17, 3) := by decide +kernel
theorem dX6_turn_15 : decode cX6_turn 15 = .ok (.aload_n 0, 1) := by decide +kernel
theorem dX6_turn_16 : decode cX6_turn 16 = .ok (.bipush 32, 2) := by decide +kernel
theorem dX6_turn_18 : decode cX6_turn 18 = .ok (.iconst 5, 1) := by decide +kernel
theorem dX6_turn_19 : decode cX6_turn 19 = .ok (.iload_n 1, 1) := by decide +kernel
theorem dX6_turn_20 : decode cX6_turn 20 = .ok (.imul, 1) := by decide +kernel
theorem dX6_turn_21 : decode cX6_turn 21 = .ok (.iadd, 1) := by decide +kernel
theorem dX6_turn_22 : decode cX6_turn 22 = .ok (.iload_n 2, 1) := by decide +kernel
theorem dX6_turn_23 : decode cX6_turn 23 = .ok (.invokevirtual 82, 3) := by decide +kernel
theorem dX6_turn_26 : decode cX6_turn 26 = .ok (.goto 9, 3) := by decide +kernel
theorem dX6_turn_29 : decode cX6_turn 29 = .ok (.aload_n 0, 1) := by decide +kernel
theorem dX6_turn_30 : decode cX6_turn 30 = .ok (.ldc 47, 2) := by decide +kernel
theorem dX6_turn_32 : decode cX6_turn 32 = .ok (.invokevirtual 85, 3) := by decide +kernel
theorem dX6_turn_35 : decode cX6_turn 35 = .ok (.ireturn, 1) := by decide +kernel
set_option maxRecDepth 20000 in
theorem ggX6_as_X6_isOne : GoodIn wsX6_as wsX6_isOne := goodIn_r _ [7, 8, 9, 10, 6, 11, 24, 25, 26, 27, 28, 29, 30, 31, 32, 33, 34, 35, 36, 37, 38, 39, 40, 41, 42, 43] (by decide +kernel) (by decide +kernel)
set_option maxRecDepth 20000 in
theorem gX6_as_X6_isOne : GoodIn wsX6_as (wsV RX6 114 RX6 yX6_isOne wsX6_isOne) := goodIn_app (goodIn_of _ (by decide +kernel)) ggX6_as_X6_isOne
set_option maxRecDepth 20000 in
theorem ggX6_as_X6_isKind : GoodIn wsX6_as wsX6_isKind := goodIn_r _ [14, 9, 10, 6, 11] (by decide +kernel) (by decide +kernel)
set_option maxRecDepth 20000 in
theorem gX6_as_X6_isKind : GoodIn wsX6_as (va_wsS RX6 105 yX6_isKind wsX6_isKind) := goodIn_app (goodIn_of _ (by decide +kernel)) ggX6_as_X6_isKind
set_option maxRecDepth 20000 in
theorem ggX6_as_X6_finds : GoodIn wsX6_as wsX6_finds := goodIn_r _ [18, 19, 1, 24, 25, 26, 27, 28, 29, 30, 31, 32, 33, 34, 35, 36, 37, 38, 39, 40, 41, 42, 43] (by decide +kernel) (by decide +kernel)
set_option maxRecDepth 20000 in
theorem gX6_as_X6_finds : GoodIn wsX6_as (wsV RX6 85 RX6 yX6_finds wsX6_finds) := goodIn_app (goodIn_of _ (by decide +kernel)) ggX6_as_X6_finds
set_option maxRecDepth 20000 in
theorem ggX6_as_X6_its : GoodIn wsX6_as wsX6_its := goodIn_r _ [23, 8, 24, 25, 26, 27, 28, 29, 30, 31, 32, 33, 34, 35, 36, 37, 38, 39, 40, 41, 42, 43] (by decide +kernel) (by decide +kernel)
set_option maxRecDepth 20000 in
theorem gX6_as_X6_its : GoodIn wsX6_as (wsV RX6 52 RX6 yX6_its wsX6_its) := goodIn_app (goodIn_of _ (by decide +kernel)) ggX6_as_X6_its
theorem dX6_as_0 : decode cX6_as 0 = .ok (.aload_n 0, 1) := by decide +kernel
theorem dX6_as_1 : decode cX6_as 1 = .ok (.iload_n 1, 1) := by decide +kernel
theorem dX6_as_2 : decode cX6_as 2 = .ok (.invokevirtual 114, 3) := by decide +kernel
theorem dX6_as_5 : decode cX6_as 5 = .ok (.ifCond .eq 10, 3) := by decide +kernel
theorem dX6_as_8 : decode cX6_as 8 = .ok (.iload_n 2, 1) := by decide +kernel
theorem dX6_as_9 : decode cX6_as 9 = .ok (.invokestatic 105, 3) := by decide +kernel
theorem dX6_as_12 : decode cX6_as 12 = .ok (.ifCond .ne 10, 3) := by decide +kernel
theorem dX6_as_15 : decode cX6_as 15 = .ok (.aload_n 0, 1) := by decide +kernel
theorem dX6_as_16 : decode cX6_as 16 = .ok (.ldc 47, 2) := by decide +kernel
theorem dX6_as_18 : decode cX6_as 18 = .ok (.invokevirtual 85, 3) := by decide +kernel
theorem dX6_as_21 : decode cX6_as 21 = .ok (.ireturn, 1) := by decide +kernel
theorem dX6_as_22 : decode cX6_as 22 = .ok (.aload_n 0, 1) := by decide +kernel
theorem dX6_as_23 : decode cX6_as 23 = .ok (.iload_n 1, 1) := by decide +kernel
theorem dX6_as_24 : decode cX6_as 24 = .ok (.iconst 0, 1) := by decide +kernel
theorem dX6_as_25 : decode cX6_as 25 = .ok (.invokevirtual 52, 3) := by decide +kernel
theorem dX6_as_28 : decode cX6_as 28 = .ok (.istore_n 3, 1) := by decide +kernel
theorem dX6_as_29 : decode cX6_as 29 = .ok (.iload_n 2, 1) := by decide +kernel
theorem dX6_as_30 : decode cX6_as 30 = .ok (.ifCond .eq 28, 3) := by decide +kernel
theorem dX6_as_33 : decode cX6_as 33 = .ok (.iload_n 2, 1) := by decide +kernel
theorem dX6_as_34 : decode cX6_as 34 = .ok (.iload_n 3, 1) := by decide +kernel
theorem dX6_as_35 : decode cX6_as 35 = .ok (.if_icmp .eq 23, 3) := by decide +kernel
theorem dX6_as_38 : decode cX6_as 38 = .ok (.iload_n 2, 1) := by decide +kernel
theorem dX6_as_39 : decode cX6_as 39 = .ok (.iconst 1, 1) := by decide +kernel
theorem dX6_as_40 : decode cX6_as 40 = .ok (.if_icmp .ne 8, 3) := by decide +kernel
theorem dX6_as_43 : decode cX6_as 43 = .ok (.iload_n 3, 1) := by decide +kernel
theorem dX6_as_44 : decode cX6_as 44 = .ok (.iconst 4, 1) := by decide +kernel
theorem dX6_as_45 : decode cX6_as 45 = .ok (.if_icmp .eq 13, 3) := by decide +kernel
theorem dX6_as_48 : decode cX6_as 48 = .ok (.iload_n 2, 1) := by decide +kernel
theorem dX6_as_49 : decode cX6_as 49 = .ok (.iconst 2, 1) := by decide +kernel
theorem dX6_as_50 : decode cX6_as 50 = .ok (.if_icmp .ne 12, 3) := by decide +kernel
theorem dX6_as_53 : decode cX6_as 53 = .ok (.iload_n 3, 1) := by decide +kernel
theorem dX6_as_54 : decode cX6_as 54 = .ok (.iconst 5, 1) := by decide +kernel
theorem dX6_as_55 : decode cX6_as 55 = .ok (.if_icmp .ne 7, 3) := by decide +kernel
theorem dX6_as_58 : decode cX6_as 58 = .ok (.iconst 1, 1) := by decide +kernel
theorem dX6_as_59 : decode cX6_as 59 = .ok (.goto 4, 3) := by decide +kernel
theorem dX6_as_62 : decode cX6_as 62 = .ok (.iconst 0, 1) := by decide +kernel
theorem dX6_as_63 : decode cX6_as 63 = .ok (.istore 4, 2) := by decide +kernel
theorem dX6_as_65 : decode cX6_as 65 = .ok (.iload 4, 2) := by decide +kernel
theorem dX6_as_67 : decode cX6_as 67 = .ok (.ifCond .eq 15, 3) := by decide +kernel
theorem dX6_as_70 : decode cX6_as 70 = .ok (.bipush 100, 2) := by decide +kernel
theorem dX6_as_72 : decode cX6_as 72 = .ok (.aload_n 0, 1) := by decide +kernel
theorem dX6_as_73 : decode cX6_as 73 = .ok (.iload_n 1, 1) := by decide +kernel
theorem dX6_as_74 : decode cX6_as 74 = .ok (.iconst 2, 1) := by decide +kernel
theorem dX6_as_75 : decode cX6_as 75 = .ok (.invokevirtual 52, 3) := by decide +kernel
theorem dX6_as_78 : decode cX6_as 78 = .ok (.iadd, 1) := by decide +kernel
theorem dX6_as_79 : decode cX6_as 79 = .ok (.goto 9, 3) := by decide +kernel
theorem dX6_as_82 : decode cX6_as 82 = .ok (.aload_n 0, 1) := by decide +kernel
theorem dX6_as_83 : decode cX6_as 83 = .ok (.ldc 133, 2) := by decide +kernel
theorem dX6_as_85 : decode cX6_as 85 = .ok (.invokevirtual 85, 3) := by decide +kernel
theorem dX6_as_88 : decode cX6_as 88 = .ok (.ireturn, 1) := by decide +kernel
set_option maxRecDepth 20000 in
theorem ggX6_oneCourse_X6_tellingSet : GoodIn wsX6_oneCourse wsX6_tellingSet := goodIn_r _ [7, 1, 8, 9, 10, 6, 11, 12, 13, 14, 15, 16, 17, 18, 19, 70, 71, 72, 73, 74, 75, 76, 77, 78, 79, 80, 81, 82, 83, 84, 85, 86, 87, 88, 89] (by decide +kernel) (by decide +kernel)
set_option maxRecDepth 20000 in
theorem gX6_oneCourse_X6_tellingSet : GoodIn wsX6_oneCourse (wsV RX6 95 RX6 yX6_tellingSet wsX6_tellingSet) := goodIn_app (goodIn_of _ (by decide +kernel)) ggX6_oneCourse_X6_tellingSet
set_option maxRecDepth 20000 in
theorem ggX6_oneCourse_X6_feels : GoodIn wsX6_oneCourse wsX6_feels := goodIn_r _ [23, 12, 13, 14, 6, 15, 1, 16, 17, 18, 19, 24, 25, 26, 27, 28, 29, 30, 31, 32, 33, 34, 35, 70, 71, 72, 73, 74, 75, 76, 77, 78, 79, 80, 81, 82, 83, 84, 85, 86, 87, 88, 89] (by decide +kernel) (by decide +kernel)
set_option maxRecDepth 20000 in
theorem gX6_oneCourse_X6_feels : GoodIn wsX6_oneCourse (wsV RX6 117 RX6 yX6_feels wsX6_feels) := goodIn_app (goodIn_of _ (by decide +kernel)) ggX6_oneCourse_X6_feels
set_option maxRecDepth 20000 in
theorem ggX6_oneCourse_X6_catches : GoodIn wsX6_oneCourse wsX6_catches := goodIn_r _ [39, 28, 29, 30, 6, 31, 12, 13, 14, 15, 1, 32, 33, 34, 35, 40, 41, 42, 43, 16, 17, 18, 19, 70, 71, 72, 73, 74, 75, 76, 77, 78, 79, 80, 81, 82, 83, 84, 85, 86, 87, 88, 89] (by decide +kernel) (by decide +kernel)
set_option maxRecDepth 20000 in
theorem gX6_oneCourse_X6_catches : GoodIn wsX6_oneCourse (wsV RX6 120 RX6 yX6_catches wsX6_catches) := goodIn_app (goodIn_of _ (by decide +kernel)) ggX6_oneCourse_X6_catches
set_option maxRecDepth 20000 in
theorem ggX6_oneCourse_X6_its : GoodIn wsX6_oneCourse wsX6_its := goodIn_r _ [15, 1, 70, 71, 72, 73, 74, 75, 76, 77, 78, 79, 80, 81, 82, 83, 84, 85, 86, 87, 88, 89] (by decide +kernel) (by decide +kernel)
set_option maxRecDepth 20000 in
theorem gX6_oneCourse_X6_its : GoodIn wsX6_oneCourse (wsV RX6 52 RX6 yX6_its wsX6_its) := goodIn_app (goodIn_of _ (by decide +kernel)) ggX6_oneCourse_X6_its
set_option maxRecDepth 20000 in
theorem ggX6_oneCourse_X6_held : GoodIn wsX6_oneCourse wsX6_held := goodIn_r _ [46] (by decide +kernel) (by decide +kernel)
set_option maxRecDepth 20000 in
theorem gX6_oneCourse_X6_held : GoodIn wsX6_oneCourse (va_wsS RX6 134 yX6_held wsX6_held) := goodIn_app (goodIn_of _ (by decide +kernel)) ggX6_oneCourse_X6_held
set_option maxRecDepth 20000 in
theorem ggX6_oneCourse_X6_puts : GoodIn wsX6_oneCourse wsX6_puts := goodIn_r _ [50, 1, 70, 71, 72, 73, 74, 75, 76, 77, 78, 79, 80, 81, 82, 83, 84, 85, 86, 87, 88, 89] (by decide +kernel) (by decide +kernel)
set_option maxRecDepth 20000 in
theorem gX6_oneCourse_X6_puts : GoodIn wsX6_oneCourse (wsV RX6 101 RX6 yX6_puts wsX6_puts) := goodIn_app (goodIn_of _ (by decide +kernel)) ggX6_oneCourse_X6_puts
set_option maxRecDepth 20000 in
theorem ggX6_oneCourse_X6_soreSet : GoodIn wsX6_oneCourse wsX6_soreSet := goodIn_r _ [54, 1, 55, 56, 57, 6, 58, 12, 13, 14, 15, 59, 60, 61, 62, 70, 71, 72, 73, 74, 75, 76, 77, 78, 79, 80, 81, 82, 83, 84, 85, 86, 87, 88, 89] (by decide +kernel) (by decide +kernel)
set_option maxRecDepth 20000 in
theorem gX6_oneCourse_X6_soreSet : GoodIn wsX6_oneCourse (wsV RX6 91 RX6 yX6_soreSet wsX6_soreSet) := goodIn_app (goodIn_of _ (by decide +kernel)) ggX6_oneCourse_X6_soreSet
set_option maxRecDepth 20000 in
theorem ggX6_oneCourse_X6_neighbours : GoodIn wsX6_oneCourse wsX6_neighbours := goodIn_r _ [66, 28, 29, 30, 6, 31, 12, 13, 14, 15, 1, 32, 33, 34, 35, 70, 71, 72, 73, 74, 75, 76, 77, 78, 79, 80, 81, 82, 83, 84, 85, 86, 87, 88, 89] (by decide +kernel) (by decide +kernel)
set_option maxRecDepth 20000 in
theorem gX6_oneCourse_X6_neighbours : GoodIn wsX6_oneCourse (wsV RX6 123 RX6 yX6_neighbours wsX6_neighbours) := goodIn_app (goodIn_of _ (by decide +kernel)) ggX6_oneCourse_X6_neighbours
set_option maxRecDepth 20000 in
theorem ggX6_oneCourse_X6_bits : GoodIn wsX6_oneCourse wsX6_bits := goodIn_r _ [69] (by decide +kernel) (by decide +kernel)
set_option maxRecDepth 20000 in
theorem gX6_oneCourse_X6_bits : GoodIn wsX6_oneCourse (va_wsS RX6 138 yX6_bits wsX6_bits) := goodIn_app (goodIn_of _ (by decide +kernel)) ggX6_oneCourse_X6_bits
theorem dX6_oneCourse_0 : decode cX6_oneCourse 0 = .ok (.aload_n 0, 1) := by decide +kernel
theorem dX6_oneCourse_1 : decode cX6_oneCourse 1 = .ok (.invokevirtual 95, 3) := by decide +kernel
theorem dX6_oneCourse_4 : decode cX6_oneCourse 4 = .ok (.istore_n 1, 1) := by decide +kernel
theorem dX6_oneCourse_5 : decode cX6_oneCourse 5 = .ok (.iconst 0, 1) := by decide +kernel
theorem dX6_oneCourse_6 : decode cX6_oneCourse 6 = .ok (.istore_n 2, 1) := by decide +kernel
theorem dX6_oneCourse_7 : decode cX6_oneCourse 7 = .ok (.iload_n 2, 1) := by decide +kernel
theorem dX6_oneCourse_8 : decode cX6_oneCourse 8 = .ok (.aload_n 0, 1) := by decide +kernel
theorem dX6_oneCourse_9 : decode cX6_oneCourse 9 = .ok (.getfield 7, 3) := by decide +kernel
theorem dX6_oneCourse_12 : decode cX6_oneCourse 12 = .ok (.iconst 1, 1) := by decide +kernel
theorem dX6_oneCourse_13 : decode cX6_oneCourse 13 = .ok (.iaload, 1) := by decide +kernel
theorem dX6_oneCourse_14 : decode cX6_oneCourse 14 = .ok (.if_icmp .ge 26, 3) := by decide +kernel
theorem dX6_oneCourse_17 : decode cX6_oneCourse 17 = .ok (.aload_n 0, 1) := by decide +kernel
theorem dX6_oneCourse_18 : decode cX6_oneCourse 18 = .ok (.getfield 16, 3) := by decide +kernel
theorem dX6_oneCourse_21 : decode cX6_oneCourse 21 = .ok (.iload_n 2, 1) := by decide +kernel
theorem dX6_oneCourse_22 : decode cX6_oneCourse 22 = .ok (.aload_n 0, 1) := by decide +kernel
theorem dX6_oneCourse_23 : decode cX6_oneCourse 23 = .ok (.iload_n 2, 1) := by decide +kernel
theorem dX6_oneCourse_24 : decode cX6_oneCourse 24 = .ok (.invokevirtual 117, 3) := by decide +kernel
theorem dX6_oneCourse_27 : decode cX6_oneCourse 27 = .ok (.aload_n 0, 1) := by decide +kernel
theorem dX6_oneCourse_28 : decode cX6_oneCourse 28 = .ok (.iload_n 2, 1) := by decide +kernel
theorem dX6_oneCourse_29 : decode cX6_oneCourse 29 = .ok (.invokevirtual 120, 3) := by decide +kernel
theorem dX6_oneCourse_32 : decode cX6_oneCourse 32 = .ok (.iadd, 1) := by decide +kernel
theorem dX6_oneCourse_33 : decode cX6_oneCourse 33 = .ok (.iastore, 1) := by decide +kernel
theorem dX6_oneCourse_34 : decode cX6_oneCourse 34 = .ok (.iinc 2 1, 3) := by decide +kernel
theorem dX6_oneCourse_37 : decode cX6_oneCourse 37 = .ok (.goto (-30), 3) := by decide +kernel
theorem dX6_oneCourse_40 : decode cX6_oneCourse 40 = .ok (.iconst 0, 1) := by decide +kernel
theorem dX6_oneCourse_41 : decode cX6_oneCourse 41 = .ok (.istore_n 2, 1) := by decide +kernel
theorem dX6_oneCourse_42 : decode cX6_oneCourse 42 = .ok (.iload_n 2, 1) := by decide +kernel
theorem dX6_oneCourse_43 : decode cX6_oneCourse 43 = .ok (.aload_n 0, 1) := by decide +kernel
theorem dX6_oneCourse_44 : decode cX6_oneCourse 44 = .ok (.getfield 7, 3) := by decide +kernel
theorem dX6_oneCourse_47 : decode cX6_oneCourse 47 = .ok (.iconst 1, 1) := by decide +kernel
theorem dX6_oneCourse_48 : decode cX6_oneCourse 48 = .ok (.iaload, 1) := by decide +kernel
theorem dX6_oneCourse_49 : decode cX6_oneCourse 49 = .ok (.if_icmp .ge 60, 3) := by decide +kernel
theorem dX6_oneCourse_52 : decode cX6_oneCourse 52 = .ok (.aload_n 0, 1) := by decide +kernel
theorem dX6_oneCourse_53 : decode cX6_oneCourse 53 = .ok (.iload_n 2, 1) := by decide +kernel
theorem dX6_oneCourse_54 : decode cX6_oneCourse 54 = .ok (.iconst 2, 1) := by decide +kernel
theorem dX6_oneCourse_55 : decode cX6_oneCourse 55 = .ok (.aload_n 0, 1) := by decide +kernel
theorem dX6_oneCourse_56 : decode cX6_oneCourse 56 = .ok (.iload_n 2, 1) := by decide +kernel
theorem dX6_oneCourse_57 : decode cX6_oneCourse 57 = .ok (.iconst 2, 1) := by decide +kernel
theorem dX6_oneCourse_58 : decode cX6_oneCourse 58 = .ok (.invokevirtual 52, 3) := by decide +kernel
theorem dX6_oneCourse_61 : decode cX6_oneCourse 61 = .ok (.aload_n 0, 1) := by decide +kernel
theorem dX6_oneCourse_62 : decode cX6_oneCourse 62 = .ok (.getfield 16, 3) := by decide +kernel
theorem dX6_oneCourse_65 : decode cX6_oneCourse 65 = .ok (.iload_n 2, 1) := by decide +kernel
theorem dX6_oneCourse_66 : decode cX6_oneCourse 66 = .ok (.iaload, 1) := by decide +kernel
theorem dX6_oneCourse_67 : decode cX6_oneCourse 67 = .ok (.iadd, 1) := by decide +kernel
theorem dX6_oneCourse_68 : decode cX6_oneCourse 68 = .ok (.bipush (-99), 2) := by decide +kernel
theorem dX6_oneCourse_70 : decode cX6_oneCourse 70 = .ok (.bipush 99, 2) := by decide +kernel
theorem dX6_oneCourse_72 : decode cX6_oneCourse 72 = .ok (.invokestatic 134, 3) := by decide +kernel
theorem dX6_oneCourse_75 : decode cX6_oneCourse 75 = .ok (.invokevirtual 101, 3) := by decide +kernel
theorem dX6_oneCourse_78 : decode cX6_oneCourse 78 = .ok (.aload_n 0, 1) := by decide +kernel
theorem dX6_oneCourse_79 : decode cX6_oneCourse 79 = .ok (.iload_n 2, 1) := by decide +kernel
theorem dX6_oneCourse_80 : decode cX6_oneCourse 80 = .ok (.iconst 3, 1) := by decide +kernel
theorem dX6_oneCourse_81 : decode cX6_oneCourse 81 = .ok (.aload_n 0, 1) := by decide +kernel
theorem dX6_oneCourse_82 : decode cX6_oneCourse 82 = .ok (.iload_n 2, 1) := by decide +kernel
theorem dX6_oneCourse_83 : decode cX6_oneCourse 83 = .ok (.iconst 3, 1) := by decide +kernel
theorem dX6_oneCourse_84 : decode cX6_oneCourse 84 = .ok (.invokevirtual 52, 3) := by decide +kernel
theorem dX6_oneCourse_87 : decode cX6_oneCourse 87 = .ok (.iload_n 1, 1) := by decide +kernel
theorem dX6_oneCourse_88 : decode cX6_oneCourse 88 = .ok (.iload_n 2, 1) := by decide +kernel
theorem dX6_oneCourse_89 : decode cX6_oneCourse 89 = .ok (.ishr, 1) := by decide +kernel
theorem dX6_oneCourse_90 : decode cX6_oneCourse 90 = .ok (.iconst 1, 1) := by decide +kernel
theorem dX6_oneCourse_91 : decode cX6_oneCourse 91 = .ok (.iand, 1) := by decide +kernel
theorem dX6_oneCourse_92 : decode cX6_oneCourse 92 = .ok (.iadd, 1) := by decide +kernel
theorem dX6_oneCourse_93 : decode cX6_oneCourse 93 = .ok (.iconst 0, 1) := by decide +kernel
theorem dX6_oneCourse_94 : decode cX6_oneCourse 94 = .ok (.sipush 9999, 3) := by decide +kernel
theorem dX6_oneCourse_97 : decode cX6_oneCourse 97 = .ok (.invokestatic 134, 3) := by decide +kernel
theorem dX6_oneCourse_100 : decode cX6_oneCourse 100 = .ok (.invokevirtual 101, 3) := by decide +kernel
theorem dX6_oneCourse_103 : decode cX6_oneCourse 103 = .ok (.iinc 2 1, 3) := by decide +kernel
theorem dX6_oneCourse_106 : decode cX6_oneCourse 106 = .ok (.goto (-64), 3) := by decide +kernel
theorem dX6_oneCourse_109 : decode cX6_oneCourse 109 = .ok (.aload_n 0, 1) := by decide +kernel
theorem dX6_oneCourse_110 : decode cX6_oneCourse 110 = .ok (.invokevirtual 91, 3) := by decide +kernel
theorem dX6_oneCourse_113 : decode cX6_oneCourse 113 = .ok (.istore_n 2, 1) := by decide +kernel
theorem dX6_oneCourse_114 : decode cX6_oneCourse 114 = .ok (.iconst 0, 1) := by decide +kernel
theorem dX6_oneCourse_115 : decode cX6_oneCourse 115 = .ok (.istore_n 3, 1) := by decide +kernel
theorem dX6_oneCourse_116 : decode cX6_oneCourse 116 = .ok (.iload_n 3, 1) := by decide +kernel
theorem dX6_oneCourse_117 : decode cX6_oneCourse 117 = .ok (.aload_n 0, 1) := by decide +kernel
theorem dX6_oneCourse_118 : decode cX6_oneCourse 118 = .ok (.getfield 7, 3) := by decide +kernel
theorem dX6_oneCourse_121 : decode cX6_oneCourse 121 = .ok (.iconst 1, 1) := by decide +kernel
theorem dX6_oneCourse_122 : decode cX6_oneCourse 122 = .ok (.iaload, 1) := by decide +kernel
theorem dX6_oneCourse_123 : decode cX6_oneCourse 123 = .ok (.if_icmp .ge 56, 3) := by decide +kernel
theorem dX6_oneCourse_126 : decode cX6_oneCourse 126 = .ok (.iload_n 2, 1) := by decide +kernel
theorem dX6_oneCourse_127 : decode cX6_oneCourse 127 = .ok (.iload_n 3, 1) := by decide +kernel
theorem dX6_oneCourse_128 : decode cX6_oneCourse 128 = .ok (.ishr, 1) := by decide +kernel
theorem dX6_oneCourse_129 : decode cX6_oneCourse 129 = .ok (.iconst 1, 1) := by decide +kernel
theorem dX6_oneCourse_130 : decode cX6_oneCourse 130 = .ok (.iand, 1) := by decide +kernel
theorem dX6_oneCourse_131 : decode cX6_oneCourse 131 = .ok (.iconst 1, 1) := by decide +kernel
theorem dX6_oneCourse_132 : decode cX6_oneCourse 132 = .ok (.if_icmp .ne 16, 3) := by decide +kernel
theorem dX6_oneCourse_135 : decode cX6_oneCourse 135 = .ok (.aload_n 0, 1) := by decide +kernel
theorem dX6_oneCourse_136 : decode cX6_oneCourse 136 = .ok (.iload_n 3, 1) := by decide +kernel
theorem dX6_oneCourse_137 : decode cX6_oneCourse 137 = .ok (.invokevirtual 123, 3) := by decide +kernel
theorem dX6_oneCourse_140 : decode cX6_oneCourse 140 = .ok (.iload_n 2, 1) := by decide +kernel
theorem dX6_oneCourse_141 : decode cX6_oneCourse 141 = .ok (.iand, 1) := by decide +kernel
theorem dX6_oneCourse_142 : decode cX6_oneCourse 142 = .ok (.invokestatic 138, 3) := by decide +kernel
theorem dX6_oneCourse_145 : decode cX6_oneCourse 145 = .ok (.goto 4, 3) := by decide +kernel
theorem dX6_oneCourse_148 : decode cX6_oneCourse 148 = .ok (.iconst 0, 1) := by decide +kernel
theorem dX6_oneCourse_149 : decode cX6_oneCourse 149 = .ok (.istore 4, 2) := by decide +kernel
theorem dX6_oneCourse_151 : decode cX6_oneCourse 151 = .ok (.aload_n 0, 1) := by decide +kernel
theorem dX6_oneCourse_152 : decode cX6_oneCourse 152 = .ok (.iload_n 3, 1) := by decide +kernel
theorem dX6_oneCourse_153 : decode cX6_oneCourse 153 = .ok (.iconst 4, 1) := by decide +kernel
theorem dX6_oneCourse_154 : decode cX6_oneCourse 154 = .ok (.aload_n 0, 1) := by decide +kernel
theorem dX6_oneCourse_155 : decode cX6_oneCourse 155 = .ok (.iload_n 3, 1) := by decide +kernel
theorem dX6_oneCourse_156 : decode cX6_oneCourse 156 = .ok (.iconst 4, 1) := by decide +kernel
theorem dX6_oneCourse_157 : decode cX6_oneCourse 157 = .ok (.invokevirtual 52, 3) := by decide +kernel
theorem dX6_oneCourse_160 : decode cX6_oneCourse 160 = .ok (.iload 4, 2) := by decide +kernel
theorem dX6_oneCourse_162 : decode cX6_oneCourse 162 = .ok (.iadd, 1) := by decide +kernel
theorem dX6_oneCourse_163 : decode cX6_oneCourse 163 = .ok (.iconst 0, 1) := by decide +kernel
theorem dX6_oneCourse_164 : decode cX6_oneCourse 164 = .ok (.sipush 9999, 3) := by decide +kernel
theorem dX6_oneCourse_167 : decode cX6_oneCourse 167 = .ok (.invokestatic 134, 3) := by decide +kernel
theorem dX6_oneCourse_170 : decode cX6_oneCourse 170 = .ok (.invokevirtual 101, 3) := by decide +kernel
theorem dX6_oneCourse_173 : decode cX6_oneCourse 173 = .ok (.iinc 3 1, 3) := by decide +kernel
theorem dX6_oneCourse_176 : decode cX6_oneCourse 176 = .ok (.goto (-60), 3) := by decide +kernel
theorem dX6_oneCourse_179 : decode cX6_oneCourse 179 = .ok (.aload_n 0, 1) := by decide +kernel
theorem dX6_oneCourse_180 : decode cX6_oneCourse 180 = .ok (.getfield 7, 3) := by decide +kernel
theorem dX6_oneCourse_183 : decode cX6_oneCourse 183 = .ok (.iconst 0, 1) := by decide +kernel
theorem dX6_oneCourse_184 : decode cX6_oneCourse 184 = .ok (.dup2, 1) := by decide +kernel
theorem dX6_oneCourse_185 : decode cX6_oneCourse 185 = .ok (.iaload, 1) := by decide +kernel
theorem dX6_oneCourse_186 : decode cX6_oneCourse 186 = .ok (.iconst 1, 1) := by decide +kernel
theorem dX6_oneCourse_187 : decode cX6_oneCourse 187 = .ok (.iadd, 1) := by decide +kernel
theorem dX6_oneCourse_188 : decode cX6_oneCourse 188 = .ok (.iastore, 1) := by decide +kernel
theorem dX6_oneCourse_189 : decode cX6_oneCourse 189 = .ok (.return_, 1) := by decide +kernel
theorem dX6_bits_0 : decode cX6_bits 0 = .ok (.iconst 0, 1) := by decide +kernel
theorem dX6_bits_1 : decode cX6_bits 1 = .ok (.istore_n 1, 1) := by decide +kernel
theorem dX6_bits_2 : decode cX6_bits 2 = .ok (.iload_n 0, 1) := by decide +kernel
theorem dX6_bits_3 : decode cX6_bits 3 = .ok (.istore_n 2, 1) := by decide +kernel
theorem dX6_bits_4 : decode cX6_bits 4 = .ok (.iload_n 2, 1) := by decide +kernel
theorem dX6_bits_5 : decode cX6_bits 5 = .ok (.ifCond .eq 15, 3) := by decide +kernel
theorem dX6_bits_8 : decode cX6_bits 8 = .ok (.iinc 1 1, 3) := by decide +kernel
theorem dX6_bits_11 : decode cX6_bits 11 = .ok (.iload_n 2, 1) := by decide +kernel
theorem dX6_bits_12 : decode cX6_bits 12 = .ok (.iload_n 2, 1) := by decide +kernel
theorem dX6_bits_13 : decode cX6_bits 13 = .ok (.iconst 1, 1) := by decide +kernel
theorem dX6_bits_14 : decode cX6_bits 14 = .ok (.isub, 1) := by decide +kernel
theorem dX6_bits_15 : decode cX6_bits 15 = .ok (.iand, 1) := by decide +kernel
theorem dX6_bits_16 : decode cX6_bits 16 = .ok (.istore_n 2, 1) := by decide +kernel
theorem dX6_bits_17 : decode cX6_bits 17 = .ok (.goto (-13), 3) := by decide +kernel
theorem dX6_bits_20 : decode cX6_bits 20 = .ok (.iload_n 1, 1) := by decide +kernel
theorem dX6_bits_21 : decode cX6_bits 21 = .ok (.ireturn, 1) := by decide +kernel
set_option maxRecDepth 20000 in
theorem ggX6_passes_X6_oneCourse : GoodIn wsX6_passes wsX6_oneCourse := goodIn_r _ [5, 6, 7, 8, 9, 10, 4, 11, 12, 13, 14, 15, 16, 17, 18, 19, 20, 21, 22, 23, 24, 25, 26, 27, 28, 29, 30, 31, 32, 33, 34, 35, 36, 37, 38, 39, 40, 41, 42, 43, 44, 45, 46, 47, 48, 49, 50, 51, 52, 53, 54, 55, 56, 57, 58, 59, 60, 61, 62, 63, 64, 65, 66, 67, 68, 69, 70, 71, 72, 73, 74, 75, 76, 77, 78, 79, 80, 81, 82, 83, 84, 85, 86, 87, 88, 89, 90, 91, 92, 93] (by decide +kernel) (by decide +kernel)
set_option maxRecDepth 20000 in
theorem gX6_passes_X6_oneCourse : GoodIn wsX6_passes (wsV RX6 141 RX6 yX6_oneCourse wsX6_oneCourse) := goodIn_app (goodIn_of _ (by decide +kernel)) ggX6_passes_X6_oneCourse
theorem dX6_passes_0 : decode cX6_passes 0 = .ok (.iconst 0, 1) := by decide +kernel
theorem dX6_passes_1 : decode cX6_passes 1 = .ok (.istore_n 2, 1) := by decide +kernel
theorem dX6_passes_2 : decode cX6_passes 2 = .ok (.iload_n 2, 1) := by decide +kernel
theorem dX6_passes_3 : decode cX6_passes 3 = .ok (.iload_n 1, 1) := by decide +kernel
theorem dX6_passes_4 : decode cX6_passes 4 = .ok (.if_icmp .ge 13, 3) := by decide +kernel
theorem dX6_passes_7 : decode cX6_passes 7 = .ok (.aload_n 0, 1) := by decide +kernel
theorem dX6_passes_8 : decode cX6_passes 8 = .ok (.invokevirtual 141, 3) := by decide +kernel
theorem dX6_passes_11 : decode cX6_passes 11 = .ok (.iinc 2 1, 3) := by decide +kernel
theorem dX6_passes_14 : decode cX6_passes 14 = .ok (.goto (-12), 3) := by decide +kernel
theorem dX6_passes_17 : decode cX6_passes 17 = .ok (.return_, 1) := by decide +kernel
set_option maxRecDepth 20000 in
theorem ggX6_courses_X6_in : GoodIn wsX6_courses wsX6_in := goodIn_r _ [8] (by decide +kernel) (by decide +kernel)
set_option maxRecDepth 20000 in
theorem gX6_courses_X6_in : GoodIn wsX6_courses (va_wsS RX6 48 yX6_in wsX6_in) := goodIn_app (goodIn_of _ (by decide +kernel)) ggX6_courses_X6_in
set_option maxRecDepth 20000 in
theorem ggX6_courses_X6_finds : GoodIn wsX6_courses wsX6_finds := goodIn_r _ [12, 13, 1, 89, 90, 91, 92, 93, 94, 95, 96, 97, 98, 99, 100, 101, 102, 103, 104, 105, 106, 107, 108] (by decide +kernel) (by decide +kernel)
set_option maxRecDepth 20000 in
theorem gX6_courses_X6_finds : GoodIn wsX6_courses (wsV RX6 85 RX6 yX6_finds wsX6_finds) := goodIn_app (goodIn_of _ (by decide +kernel)) ggX6_courses_X6_finds
set_option maxRecDepth 20000 in
theorem ggX6_courses_X6_passes : GoodIn wsX6_courses wsX6_passes := goodIn_r _ [17, 18, 19, 20, 7, 21, 2, 22, 23, 24, 25, 26, 27, 28, 29, 30, 31, 32, 33, 34, 35, 36, 37, 38, 39, 40, 41, 42, 43, 44, 45, 46, 47, 48, 49, 50, 51, 52, 53, 54, 55, 56, 57, 58, 59, 60, 61, 62, 63, 64, 65, 66, 67, 68, 69, 70, 71, 72, 73, 74, 75, 76, 77, 78, 79, 80, 81, 82, 83, 84, 85, 86, 87, 88, 89, 90, 91, 92, 93, 94, 95, 96, 97, 98, 99, 100, 101, 102, 103, 104, 105, 106, 107, 108] (by decide +kernel) (by decide +kernel)
set_option maxRecDepth 20000 in
theorem gX6_courses_X6_passes : GoodIn wsX6_courses (wsV RX6 145 RX6 yX6_passes wsX6_passes) := goodIn_app (goodIn_of _ (by decide +kernel)) ggX6_courses_X6_passes
set_option maxRecDepth 20000 in
theorem ggX6_courses_X6_soreSet : GoodIn wsX6_courses wsX6_soreSet := goodIn_r _ [73, 2, 74, 75, 76, 7, 77, 31, 32, 33, 34, 78, 79, 80, 81, 89, 90, 91, 92, 93, 94, 95, 96, 97, 98, 99, 100, 101, 102, 103, 104, 105, 106, 107, 108] (by decide +kernel) (by decide +kernel)
set_option maxRecDepth 20000 in
theorem gX6_courses_X6_soreSet : GoodIn wsX6_courses (wsV RX6 91 RX6 yX6_soreSet wsX6_soreSet) := goodIn_app (goodIn_of _ (by decide +kernel)) ggX6_courses_X6_soreSet
theorem dX6_courses_0 : decode cX6_courses 0 = .ok (.iload_n 1, 1) := by decide +kernel
theorem dX6_courses_1 : decode cX6_courses 1 = .ok (.iconst 1, 1) := by decide +kernel
theorem dX6_courses_2 : decode cX6_courses 2 = .ok (.bipush 60, 2) := by decide +kernel
theorem dX6_courses_4 : decode cX6_courses 4 = .ok (.invokestatic 48, 3) := by decide +kernel
theorem dX6_courses_7 : decode cX6_courses 7 = .ok (.ifCond .ne 10, 3) := by decide +kernel
theorem dX6_courses_10 : decode cX6_courses 10 = .ok (.aload_n 0, 1) := by decide +kernel
theorem dX6_courses_11 : decode cX6_courses 11 = .ok (.ldc 47, 2) := by decide +kernel
theorem dX6_courses_13 : decode cX6_courses 13 = .ok (.invokevirtual 85, 3) := by decide +kernel
theorem dX6_courses_16 : decode cX6_courses 16 = .ok (.ireturn, 1) := by decide +kernel
theorem dX6_courses_17 : decode cX6_courses 17 = .ok (.aload_n 0, 1) := by decide +kernel
theorem dX6_courses_18 : decode cX6_courses 18 = .ok (.getfield 7, 3) := by decide +kernel
theorem dX6_courses_21 : decode cX6_courses 21 = .ok (.iconst 0, 1) := by decide +kernel
theorem dX6_courses_22 : decode cX6_courses 22 = .ok (.iaload, 1) := by decide +kernel
theorem dX6_courses_23 : decode cX6_courses 23 = .ok (.iload_n 1, 1) := by decide +kernel
theorem dX6_courses_24 : decode cX6_courses 24 = .ok (.iadd, 1) := by decide +kernel
theorem dX6_courses_25 : decode cX6_courses 25 = .ok (.ldc 144, 2) := by decide +kernel
theorem dX6_courses_27 : decode cX6_courses 27 = .ok (.if_icmp .le 10, 3) := by decide +kernel
theorem dX6_courses_30 : decode cX6_courses 30 = .ok (.aload_n 0, 1) := by decide +kernel
theorem dX6_courses_31 : decode cX6_courses 31 = .ok (.ldc 109, 2) := by decide +kernel
theorem dX6_courses_33 : decode cX6_courses 33 = .ok (.invokevirtual 85, 3) := by decide +kernel
theorem dX6_courses_36 : decode cX6_courses 36 = .ok (.ireturn, 1) := by decide +kernel
theorem dX6_courses_37 : decode cX6_courses 37 = .ok (.aload_n 0, 1) := by decide +kernel
theorem dX6_courses_38 : decode cX6_courses 38 = .ok (.iload_n 1, 1) := by decide +kernel
theorem dX6_courses_39 : decode cX6_courses 39 = .ok (.invokevirtual 145, 3) := by decide +kernel
theorem dX6_courses_42 : decode cX6_courses 42 = .ok (.aload_n 0, 1) := by decide +kernel
theorem dX6_courses_43 : decode cX6_courses 43 = .ok (.invokevirtual 91, 3) := by decide +kernel
theorem dX6_courses_46 : decode cX6_courses 46 = .ok (.ireturn, 1) := by decide +kernel
set_option maxRecDepth 20000 in
theorem ggX6_on_X6_isOne : GoodIn wsX6_on wsX6_isOne := goodIn_r _ [7, 8, 9, 10, 6, 11, 96, 97, 98, 99, 100, 101, 102, 103, 104, 105, 106, 107, 108, 109, 110, 111, 112, 113, 114, 115] (by decide +kernel) (by decide +kernel)
set_option maxRecDepth 20000 in
theorem gX6_on_X6_isOne : GoodIn wsX6_on (wsV RX6 114 RX6 yX6_isOne wsX6_isOne) := goodIn_app (goodIn_of _ (by decide +kernel)) ggX6_on_X6_isOne
set_option maxRecDepth 20000 in
theorem ggX6_on_X6_in : GoodIn wsX6_on wsX6_in := goodIn_r _ [11] (by decide +kernel) (by decide +kernel)
set_option maxRecDepth 20000 in
theorem gX6_on_X6_in : GoodIn wsX6_on (va_wsS RX6 48 yX6_in wsX6_in) := goodIn_app (goodIn_of _ (by decide +kernel)) ggX6_on_X6_in
set_option maxRecDepth 20000 in
theorem ggX6_on_X6_finds : GoodIn wsX6_on wsX6_finds := goodIn_r _ [15, 16, 1, 96, 97, 98, 99, 100, 101, 102, 103, 104, 105, 106, 107, 108, 109, 110, 111, 112, 113, 114, 115] (by decide +kernel) (by decide +kernel)
set_option maxRecDepth 20000 in
theorem gX6_on_X6_finds : GoodIn wsX6_on (wsV RX6 85 RX6 yX6_finds wsX6_finds) := goodIn_app (goodIn_of _ (by decide +kernel)) ggX6_on_X6_finds
set_option maxRecDepth 20000 in
theorem ggX6_on_X6_moveAll : GoodIn wsX6_on wsX6_moveAll := goodIn_r _ [20, 8, 96, 97, 98, 99, 100, 101, 102, 103, 104, 105, 106, 107, 108, 109, 110, 111, 112, 113, 114, 115] (by decide +kernel) (by decide +kernel)
set_option maxRecDepth 20000 in
theorem gX6_on_X6_moveAll : GoodIn wsX6_on (wsV RX6 149 RX6 yX6_moveAll wsX6_moveAll) := goodIn_app (goodIn_of _ (by decide +kernel)) ggX6_on_X6_moveAll
set_option maxRecDepth 20000 in
theorem ggX6_on_X6_passes : GoodIn wsX6_on wsX6_passes := goodIn_r _ [24, 25, 26, 27, 6, 28, 8, 29, 30, 31, 32, 33, 34, 35, 36, 37, 38, 39, 40, 41, 42, 43, 44, 45, 46, 47, 48, 49, 50, 51, 52, 53, 54, 55, 56, 57, 58, 59, 60, 61, 62, 63, 64, 65, 66, 67, 68, 69, 70, 71, 72, 73, 74, 75, 76, 77, 78, 79, 80, 81, 82, 83, 84, 85, 86, 87, 88, 89, 90, 91, 92, 93, 94, 95, 96, 97, 98, 99, 100, 101, 102, 103, 104, 105, 106, 107, 108, 109, 110, 111, 112, 113, 114, 115] (by decide +kernel) (by decide +kernel)
set_option maxRecDepth 20000 in
theorem gX6_on_X6_passes : GoodIn wsX6_on (wsV RX6 145 RX6 yX6_passes wsX6_passes) := goodIn_app (goodIn_of _ (by decide +kernel)) ggX6_on_X6_passes
set_option maxRecDepth 20000 in
theorem ggX6_on_X6_its : GoodIn wsX6_on wsX6_its := goodIn_r _ [41, 8, 96, 97, 98, 99, 100, 101, 102, 103, 104, 105, 106, 107, 108, 109, 110, 111, 112, 113, 114, 115] (by decide +kernel) (by decide +kernel)
set_option maxRecDepth 20000 in
theorem gX6_on_X6_its : GoodIn wsX6_on (wsV RX6 52 RX6 yX6_its wsX6_its) := goodIn_app (goodIn_of _ (by decide +kernel)) ggX6_on_X6_its
theorem dX6_on_0 : decode cX6_on 0 = .ok (.aload_n 0, 1) := by decide +kernel
theorem dX6_on_1 : decode cX6_on 1 = .ok (.iload_n 1, 1) := by decide +kernel
theorem dX6_on_2 : decode cX6_on 2 = .ok (.invokevirtual 114, 3) := by decide +kernel
theorem dX6_on_5 : decode cX6_on 5 = .ok (.ifCond .eq 22, 3) := by decide +kernel
theorem dX6_on_8 : decode cX6_on 8 = .ok (.iload_n 2, 1) := by decide +kernel
theorem dX6_on_9 : decode cX6_on 9 = .ok (.iconst 0, 1) := by decide +kernel
theorem dX6_on_10 : decode cX6_on 10 = .ok (.bipush 100, 2) := by decide +kernel
theorem dX6_on_12 : decode cX6_on 12 = .ok (.invokestatic 48, 3) := by decide +kernel
theorem dX6_on_15 : decode cX6_on 15 = .ok (.ifCond .eq 12, 3) := by decide +kernel
theorem dX6_on_18 : decode cX6_on 18 = .ok (.iload_n 3, 1) := by decide +kernel
theorem dX6_on_19 : decode cX6_on 19 = .ok (.iconst 0, 1) := by decide +kernel
theorem dX6_on_20 : decode cX6_on 20 = .ok (.iconst 2, 1) := by decide +kernel
theorem dX6_on_21 : decode cX6_on 21 = .ok (.invokestatic 48, 3) := by decide +kernel
theorem dX6_on_24 : decode cX6_on 24 = .ok (.ifCond .ne 10, 3) := by decide +kernel
theorem dX6_on_27 : decode cX6_on 27 = .ok (.aload_n 0, 1) := by decide +kernel
theorem dX6_on_28 : decode cX6_on 28 = .ok (.ldc 47, 2) := by decide +kernel
theorem dX6_on_30 : decode cX6_on 30 = .ok (.invokevirtual 85, 3) := by decide +kernel
theorem dX6_on_33 : decode cX6_on 33 = .ok (.ireturn, 1) := by decide +kernel
theorem dX6_on_34 : decode cX6_on 34 = .ok (.aload_n 0, 1) := by decide +kernel
theorem dX6_on_35 : decode cX6_on 35 = .ok (.iconst 1, 1) := by decide +kernel
theorem dX6_on_36 : decode cX6_on 36 = .ok (.aload_n 0, 1) := by decide +kernel
theorem dX6_on_37 : decode cX6_on 37 = .ok (.getfield 19, 3) := by decide +kernel
theorem dX6_on_40 : decode cX6_on 40 = .ok (.invokevirtual 149, 3) := by decide +kernel
theorem dX6_on_43 : decode cX6_on 43 = .ok (.aload_n 0, 1) := by decide +kernel
theorem dX6_on_44 : decode cX6_on 44 = .ok (.iload_n 2, 1) := by decide +kernel
theorem dX6_on_45 : decode cX6_on 45 = .ok (.invokevirtual 145, 3) := by decide +kernel
theorem dX6_on_48 : decode cX6_on 48 = .ok (.aload_n 0, 1) := by decide +kernel
theorem dX6_on_49 : decode cX6_on 49 = .ok (.iload_n 1, 1) := by decide +kernel
theorem dX6_on_50 : decode cX6_on 50 = .ok (.iconst 2, 1) := by decide +kernel
theorem dX6_on_51 : decode cX6_on 51 = .ok (.iload_n 3, 1) := by decide +kernel
theorem dX6_on_52 : decode cX6_on 52 = .ok (.iadd, 1) := by decide +kernel
theorem dX6_on_53 : decode cX6_on 53 = .ok (.invokevirtual 52, 3) := by decide +kernel
theorem dX6_on_56 : decode cX6_on 56 = .ok (.istore 4, 2) := by decide +kernel
theorem dX6_on_58 : decode cX6_on 58 = .ok (.aload_n 0, 1) := by decide +kernel
theorem dX6_on_59 : decode cX6_on 59 = .ok (.iconst 0, 1) := by decide +kernel
theorem dX6_on_60 : decode cX6_on 60 = .ok (.aload_n 0, 1) := by decide +kernel
theorem dX6_on_61 : decode cX6_on 61 = .ok (.getfield 19, 3) := by decide +kernel
theorem dX6_on_64 : decode cX6_on 64 = .ok (.invokevirtual 149, 3) := by decide +kernel
theorem dX6_on_67 : decode cX6_on 67 = .ok (.iload 4, 2) := by decide +kernel
theorem dX6_on_69 : decode cX6_on 69 = .ok (.ireturn, 1) := by decide +kernel
set_option maxRecDepth 20000 in
theorem ggX6_allBehind_X6_passes : GoodIn wsX6_allBehind wsX6_passes := goodIn_r _ [6, 7, 8, 9, 5, 10, 11, 12, 13, 14, 15, 16, 17, 18, 19, 20, 21, 22, 23, 24, 25, 26, 27, 28, 29, 30, 31, 32, 33, 34, 35, 36, 37, 38, 39, 40, 41, 42, 43, 44, 45, 46, 47, 48, 49, 50, 51, 52, 53, 54, 55, 56, 57, 58, 59, 60, 61, 62, 63, 64, 65, 66, 67, 68, 69, 70, 71, 72, 73, 74, 75, 76, 77, 78, 87, 88, 89, 90, 91, 92, 93, 94, 95, 96, 97, 98, 99, 100, 101, 102, 103, 104, 105, 106] (by decide +kernel) (by decide +kernel)
set_option maxRecDepth 20000 in
theorem gX6_allBehind_X6_passes : GoodIn wsX6_allBehind (wsV RX6 145 RX6 yX6_passes wsX6_passes) := goodIn_app (goodIn_of _ (by decide +kernel)) ggX6_allBehind_X6_passes
set_option maxRecDepth 20000 in
theorem ggX6_allBehind_X6_sumOf : GoodIn wsX6_allBehind wsX6_sumOf := goodIn_r _ [82, 11, 21, 22, 23, 5, 24, 87, 88, 89, 90, 91, 92, 93, 94, 95, 96, 97, 98, 99, 100, 101, 102, 103, 104, 105, 106] (by decide +kernel) (by decide +kernel)
set_option maxRecDepth 20000 in
theorem gX6_allBehind_X6_sumOf : GoodIn wsX6_allBehind (wsV RX6 98 RX6 yX6_sumOf wsX6_sumOf) := goodIn_app (goodIn_of _ (by decide +kernel)) ggX6_allBehind_X6_sumOf
set_option maxRecDepth 20000 in
theorem ggX6_allBehind_X6_moveAll : GoodIn wsX6_allBehind wsX6_moveAll := goodIn_r _ [86, 11, 87, 88, 89, 90, 91, 92, 93, 94, 95, 96, 97, 98, 99, 100, 101, 102, 103, 104, 105, 106] (by decide +kernel) (by decide +kernel)
set_option maxRecDepth 20000 in
theorem gX6_allBehind_X6_moveAll : GoodIn wsX6_allBehind (wsV RX6 149 RX6 yX6_moveAll wsX6_moveAll) := goodIn_app (goodIn_of _ (by decide +kernel)) ggX6_allBehind_X6_moveAll
theorem dX6_allBehind_0 : decode cX6_allBehind 0 = .ok (.aload_n 0, 1) := by decide +kernel
theorem dX6_allBehind_1 : decode cX6_allBehind 1 = .ok (.iload_n 1, 1) := by decide +kernel
theorem dX6_allBehind_2 : decode cX6_allBehind 2 = .ok (.invokevirtual 145, 3) := by decide +kernel
theorem dX6_allBehind_5 : decode cX6_allBehind 5 = .ok (.aload_n 0, 1) := by decide +kernel
theorem dX6_allBehind_6 : decode cX6_allBehind 6 = .ok (.iload_n 2, 1) := by decide +kernel
theorem dX6_allBehind_7 : decode cX6_allBehind 7 = .ok (.invokevirtual 98, 3) := by decide +kernel
theorem dX6_allBehind_10 : decode cX6_allBehind 10 = .ok (.istore_n 3, 1) := by decide +kernel
theorem dX6_allBehind_11 : decode cX6_allBehind 11 = .ok (.aload_n 0, 1) := by decide +kernel
theorem dX6_allBehind_12 : decode cX6_allBehind 12 = .ok (.iconst 0, 1) := by decide +kernel
theorem dX6_allBehind_13 : decode cX6_allBehind 13 = .ok (.aload_n 0, 1) := by decide +kernel
theorem dX6_allBehind_14 : decode cX6_allBehind 14 = .ok (.getfield 19, 3) := by decide +kernel
theorem dX6_allBehind_17 : decode cX6_allBehind 17 = .ok (.invokevirtual 149, 3) := by decide +kernel
theorem dX6_allBehind_20 : decode cX6_allBehind 20 = .ok (.iload_n 3, 1) := by decide +kernel
theorem dX6_allBehind_21 : decode cX6_allBehind 21 = .ok (.ireturn, 1) := by decide +kernel
set_option maxRecDepth 20000 in
theorem ggX6_mood_X6_in : GoodIn wsX6_mood wsX6_in := goodIn_r _ [6] (by decide +kernel) (by decide +kernel)
set_option maxRecDepth 20000 in
theorem gX6_mood_X6_in : GoodIn wsX6_mood (va_wsS RX6 48 yX6_in wsX6_in) := goodIn_app (goodIn_of _ (by decide +kernel)) ggX6_mood_X6_in
set_option maxRecDepth 20000 in
theorem ggX6_mood_X6_finds : GoodIn wsX6_mood wsX6_finds := goodIn_r _ [10, 11, 1, 100, 101, 102, 103, 104, 105, 106, 107, 108, 109, 110, 111, 112, 113, 114, 115, 116, 117, 118, 119] (by decide +kernel) (by decide +kernel)
set_option maxRecDepth 20000 in
theorem gX6_mood_X6_finds : GoodIn wsX6_mood (wsV RX6 85 RX6 yX6_finds wsX6_finds) := goodIn_app (goodIn_of _ (by decide +kernel)) ggX6_mood_X6_finds
set_option maxRecDepth 20000 in
theorem ggX6_mood_X6_moveAll : GoodIn wsX6_mood wsX6_moveAll := goodIn_r _ [15, 16, 100, 101, 102, 103, 104, 105, 106, 107, 108, 109, 110, 111, 112, 113, 114, 115, 116, 117, 118, 119] (by decide +kernel) (by decide +kernel)
set_option maxRecDepth 20000 in
theorem gX6_mood_X6_moveAll : GoodIn wsX6_mood (wsV RX6 149 RX6 yX6_moveAll wsX6_moveAll) := goodIn_app (goodIn_of _ (by decide +kernel)) ggX6_mood_X6_moveAll
set_option maxRecDepth 20000 in
theorem ggX6_mood_X6_allBehind : GoodIn wsX6_mood wsX6_allBehind := goodIn_r _ [20, 2, 21, 22, 23, 5, 24, 25, 26, 27, 28, 16, 29, 30, 31, 32, 33, 34, 35, 36, 37, 38, 39, 40, 41, 42, 43, 44, 45, 46, 47, 48, 49, 50, 51, 52, 53, 54, 55, 56, 57, 58, 59, 60, 61, 62, 63, 64, 65, 66, 67, 68, 69, 70, 71, 72, 73, 74, 75, 76, 77, 78, 79, 80, 81, 82, 83, 84, 85, 86, 87, 88, 89, 90, 91, 92, 93, 94, 95, 96, 97, 98, 99, 12, 13, 14, 15, 100, 101, 102, 103, 104, 105, 106, 107, 108, 109, 110, 111, 112, 113, 114, 115, 116, 117, 118, 119] (by decide +kernel) (by decide +kernel)
set_option maxRecDepth 20000 in
theorem gX6_mood_X6_allBehind : GoodIn wsX6_mood (wsV RX6 153 RX6 yX6_allBehind wsX6_allBehind) := goodIn_app (goodIn_of _ (by decide +kernel)) ggX6_mood_X6_allBehind
theorem dX6_mood_0 : decode cX6_mood 0 = .ok (.iload_n 1, 1) := by decide +kernel
theorem dX6_mood_1 : decode cX6_mood 1 = .ok (.iconst 0, 1) := by decide +kernel
theorem dX6_mood_2 : decode cX6_mood 2 = .ok (.bipush 100, 2) := by decide +kernel
theorem dX6_mood_4 : decode cX6_mood 4 = .ok (.invokestatic 48, 3) := by decide +kernel
theorem dX6_mood_7 : decode cX6_mood 7 = .ok (.ifCond .ne 10, 3) := by decide +kernel
theorem dX6_mood_10 : decode cX6_mood 10 = .ok (.aload_n 0, 1) := by decide +kernel
theorem dX6_mood_11 : decode cX6_mood 11 = .ok (.ldc 47, 2) := by decide +kernel
theorem dX6_mood_13 : decode cX6_mood 13 = .ok (.invokevirtual 85, 3) := by decide +kernel
theorem dX6_mood_16 : decode cX6_mood 16 = .ok (.ireturn, 1) := by decide +kernel
theorem dX6_mood_17 : decode cX6_mood 17 = .ok (.aload_n 0, 1) := by decide +kernel
theorem dX6_mood_18 : decode cX6_mood 18 = .ok (.iconst 1, 1) := by decide +kernel
theorem dX6_mood_19 : decode cX6_mood 19 = .ok (.aload_n 0, 1) := by decide +kernel
theorem dX6_mood_20 : decode cX6_mood 20 = .ok (.getfield 19, 3) := by decide +kernel
theorem dX6_mood_23 : decode cX6_mood 23 = .ok (.invokevirtual 149, 3) := by decide +kernel
theorem dX6_mood_26 : decode cX6_mood 26 = .ok (.aload_n 0, 1) := by decide +kernel
theorem dX6_mood_27 : decode cX6_mood 27 = .ok (.iload_n 1, 1) := by decide +kernel
theorem dX6_mood_28 : decode cX6_mood 28 = .ok (.iconst 2, 1) := by decide +kernel
theorem dX6_mood_29 : decode cX6_mood 29 = .ok (.invokevirtual 153, 3) := by decide +kernel
theorem dX6_mood_32 : decode cX6_mood 32 = .ok (.ireturn, 1) := by decide +kernel
set_option maxRecDepth 20000 in
theorem ggX6_peace_X6_moveAll : GoodIn wsX6_peace wsX6_moveAll := goodIn_r _ [7, 8, 86, 87, 88, 89, 90, 91, 92, 93, 94, 95, 96, 97, 98, 99, 100, 101, 102, 103, 104, 105] (by decide +kernel) (by decide +kernel)
set_option maxRecDepth 20000 in
theorem gX6_peace_X6_moveAll : GoodIn wsX6_peace (wsV RX6 149 RX6 yX6_moveAll wsX6_moveAll) := goodIn_app (goodIn_of _ (by decide +kernel)) ggX6_peace_X6_moveAll
set_option maxRecDepth 20000 in
theorem ggX6_peace_X6_soreSet : GoodIn wsX6_peace wsX6_soreSet := goodIn_r _ [12, 8, 13, 14, 15, 6, 16, 17, 18, 19, 20, 21, 22, 23, 24, 86, 87, 88, 89, 90, 91, 92, 93, 94, 95, 96, 97, 98, 99, 100, 101, 102, 103, 104, 105] (by decide +kernel) (by decide +kernel)
set_option maxRecDepth 20000 in
theorem gX6_peace_X6_soreSet : GoodIn wsX6_peace (wsV RX6 91 RX6 yX6_soreSet wsX6_soreSet) := goodIn_app (goodIn_of _ (by decide +kernel)) ggX6_peace_X6_soreSet
set_option maxRecDepth 20000 in
theorem ggX6_peace_X6_oneCourse : GoodIn wsX6_peace wsX6_oneCourse := goodIn_r _ [28, 8, 29, 30, 31, 32, 6, 33, 34, 35, 36, 37, 17, 18, 19, 20, 38, 39, 40, 41, 42, 43, 44, 45, 46, 47, 48, 49, 50, 51, 52, 53, 54, 55, 56, 57, 58, 59, 60, 61, 62, 63, 64, 65, 66, 67, 68, 69, 70, 71, 72, 9, 10, 11, 12, 13, 14, 15, 16, 21, 22, 23, 24, 73, 74, 75, 76, 77, 78, 79, 86, 87, 88, 89, 90, 91, 92, 93, 94, 95, 96, 97, 98, 99, 100, 101, 102, 103, 104, 105] (by decide +kernel) (by decide +kernel)
set_option maxRecDepth 20000 in
theorem gX6_peace_X6_oneCourse : GoodIn wsX6_peace (wsV RX6 141 RX6 yX6_oneCourse wsX6_oneCourse) := goodIn_app (goodIn_of _ (by decide +kernel)) ggX6_peace_X6_oneCourse
set_option maxRecDepth 20000 in
theorem ggX6_peace_X6_finds : GoodIn wsX6_peace wsX6_finds := goodIn_r _ [83, 84, 85, 86, 87, 88, 89, 90, 91, 92, 93, 94, 95, 96, 97, 98, 99, 100, 101, 102, 103, 104, 105] (by decide +kernel) (by decide +kernel)
set_option maxRecDepth 20000 in
theorem gX6_peace_X6_finds : GoodIn wsX6_peace (wsV RX6 85 RX6 yX6_finds wsX6_finds) := goodIn_app (goodIn_of _ (by decide +kernel)) ggX6_peace_X6_finds
theorem dX6_peace_0 : decode cX6_peace 0 = .ok (.aload_n 0, 1) := by decide +kernel
theorem dX6_peace_1 : decode cX6_peace 1 = .ok (.iconst 1, 1) := by decide +kernel
theorem dX6_peace_2 : decode cX6_peace 2 = .ok (.aload_n 0, 1) := by decide +kernel
theorem dX6_peace_3 : decode cX6_peace 3 = .ok (.getfield 19, 3) := by decide +kernel
theorem dX6_peace_6 : decode cX6_peace 6 = .ok (.invokevirtual 149, 3) := by decide +kernel
theorem dX6_peace_9 : decode cX6_peace 9 = .ok (.iconst 0, 1) := by decide +kernel
theorem dX6_peace_10 : decode cX6_peace 10 = .ok (.istore_n 1, 1) := by decide +kernel
theorem dX6_peace_11 : decode cX6_peace 11 = .ok (.iload_n 1, 1) := by decide +kernel
theorem dX6_peace_12 : decode cX6_peace 12 = .ok (.bipush 100, 2) := by decide +kernel
theorem dX6_peace_14 : decode cX6_peace 14 = .ok (.if_icmp .gt 20, 3) := by decide +kernel
theorem dX6_peace_17 : decode cX6_peace 17 = .ok (.aload_n 0, 1) := by decide +kernel
theorem dX6_peace_18 : decode cX6_peace 18 = .ok (.invokevirtual 91, 3) := by decide +kernel
theorem dX6_peace_21 : decode cX6_peace 21 = .ok (.ifCond .eq 13, 3) := by decide +kernel
theorem dX6_peace_24 : decode cX6_peace 24 = .ok (.aload_n 0, 1) := by decide +kernel
theorem dX6_peace_25 : decode cX6_peace 25 = .ok (.invokevirtual 141, 3) := by decide +kernel
theorem dX6_peace_28 : decode cX6_peace 28 = .ok (.iinc 1 1, 3) := by decide +kernel
theorem dX6_peace_31 : decode cX6_peace 31 = .ok (.goto (-20), 3) := by decide +kernel
theorem dX6_peace_34 : decode cX6_peace 34 = .ok (.aload_n 0, 1) := by decide +kernel
theorem dX6_peace_35 : decode cX6_peace 35 = .ok (.iconst 0, 1) := by decide +kernel
theorem dX6_peace_36 : decode cX6_peace 36 = .ok (.aload_n 0, 1) := by decide +kernel
theorem dX6_peace_37 : decode cX6_peace 37 = .ok (.getfield 19, 3) := by decide +kernel
theorem dX6_peace_40 : decode cX6_peace 40 = .ok (.invokevirtual 149, 3) := by decide +kernel
theorem dX6_peace_43 : decode cX6_peace 43 = .ok (.iload_n 1, 1) := by decide +kernel
theorem dX6_peace_44 : decode cX6_peace 44 = .ok (.bipush 100, 2) := by decide +kernel
theorem dX6_peace_46 : decode cX6_peace 46 = .ok (.if_icmp .le 12, 3) := by decide +kernel
theorem dX6_peace_49 : decode cX6_peace 49 = .ok (.aload_n 0, 1) := by decide +kernel
theorem dX6_peace_50 : decode cX6_peace 50 = .ok (.ldc 156, 2) := by decide +kernel
theorem dX6_peace_52 : decode cX6_peace 52 = .ok (.invokevirtual 85, 3) := by decide +kernel
theorem dX6_peace_55 : decode cX6_peace 55 = .ok (.goto 4, 3) := by decide +kernel
theorem dX6_peace_58 : decode cX6_peace 58 = .ok (.iload_n 1, 1) := by decide +kernel
theorem dX6_peace_59 : decode cX6_peace 59 = .ok (.ireturn, 1) := by decide +kernel
set_option maxRecDepth 20000 in
theorem ggX6_tells_X6_isOne : GoodIn wsX6_tells wsX6_isOne := goodIn_r _ [8, 9, 10, 11, 7, 12, 93, 94, 95, 96, 97, 98, 99, 100, 101, 102, 103, 104, 105, 106, 107, 108, 109, 110, 111, 112] (by decide +kernel) (by decide +kernel)
set_option maxRecDepth 20000 in
theorem gX6_tells_X6_isOne : GoodIn wsX6_tells (wsV RX6 114 RX6 yX6_isOne wsX6_isOne) := goodIn_app (goodIn_of _ (by decide +kernel)) ggX6_tells_X6_isOne
set_option maxRecDepth 20000 in
theorem ggX6_tells_X6_finds : GoodIn wsX6_tells wsX6_finds := goodIn_r _ [16, 17, 1, 93, 94, 95, 96, 97, 98, 99, 100, 101, 102, 103, 104, 105, 106, 107, 108, 109, 110, 111, 112] (by decide +kernel) (by decide +kernel)
set_option maxRecDepth 20000 in
theorem gX6_tells_X6_finds : GoodIn wsX6_tells (wsV RX6 85 RX6 yX6_finds wsX6_finds) := goodIn_app (goodIn_of _ (by decide +kernel)) ggX6_tells_X6_finds
set_option maxRecDepth 20000 in
theorem ggX6_tells_X6_moveAll : GoodIn wsX6_tells wsX6_moveAll := goodIn_r _ [21, 9, 93, 94, 95, 96, 97, 98, 99, 100, 101, 102, 103, 104, 105, 106, 107, 108, 109, 110, 111, 112] (by decide +kernel) (by decide +kernel)
set_option maxRecDepth 20000 in
theorem gX6_tells_X6_moveAll : GoodIn wsX6_tells (wsV RX6 149 RX6 yX6_moveAll wsX6_moveAll) := goodIn_app (goodIn_of _ (by decide +kernel)) ggX6_tells_X6_moveAll
set_option maxRecDepth 20000 in
theorem ggX6_tells_X6_isTelling : GoodIn wsX6_tells wsX6_isTelling := goodIn_r _ [25, 26, 27, 28, 7, 29, 9, 30, 31, 32, 33, 93, 94, 95, 96, 97, 98, 99, 100, 101, 102, 103, 104, 105, 106, 107, 108, 109, 110, 111, 112] (by decide +kernel) (by decide +kernel)
set_option maxRecDepth 20000 in
theorem gX6_tells_X6_isTelling : GoodIn wsX6_tells (wsV RX6 88 RX6 yX6_isTelling wsX6_isTelling) := goodIn_app (goodIn_of _ (by decide +kernel)) ggX6_tells_X6_isTelling
set_option maxRecDepth 20000 in
theorem ggX6_tells_X6_oneCourse : GoodIn wsX6_tells wsX6_oneCourse := goodIn_r _ [37, 9, 38, 39, 40, 41, 7, 42, 22, 23, 24, 25, 26, 27, 28, 29, 30, 31, 32, 33, 43, 44, 45, 46, 47, 48, 49, 50, 51, 52, 53, 54, 55, 56, 57, 58, 59, 60, 61, 62, 63, 64, 65, 66, 67, 68, 69, 70, 71, 72, 73, 74, 75, 76, 77, 78, 79, 80, 81, 82, 83, 84, 85, 86, 87, 88, 89, 90, 91, 92, 93, 94, 95, 96, 97, 98, 99, 100, 101, 102, 103, 104, 105, 106, 107, 108, 109, 110, 111, 112] (by decide +kernel) (by decide +kernel)
set_option maxRecDepth 20000 in
theorem gX6_tells_X6_oneCourse : GoodIn wsX6_tells (wsV RX6 141 RX6 yX6_oneCourse wsX6_oneCourse) := goodIn_app (goodIn_of _ (by decide +kernel)) ggX6_tells_X6_oneCourse
theorem dX6_tells_0 : decode cX6_tells 0 = .ok (.aload_n 0, 1) := by decide +kernel
theorem dX6_tells_1 : decode cX6_tells 1 = .ok (.iload_n 1, 1) := by decide +kernel
theorem dX6_tells_2 : decode cX6_tells 2 = .ok (.invokevirtual 114, 3) := by decide +kernel
theorem dX6_tells_5 : decode cX6_tells 5 = .ok (.ifCond .ne 10, 3) := by decide +kernel
theorem dX6_tells_8 : decode cX6_tells 8 = .ok (.aload_n 0, 1) := by decide +kernel
theorem dX6_tells_9 : decode cX6_tells 9 = .ok (.ldc 47, 2) := by decide +kernel
theorem dX6_tells_11 : decode cX6_tells 11 = .ok (.invokevirtual 85, 3) := by decide +kernel
theorem dX6_tells_14 : decode cX6_tells 14 = .ok (.ireturn, 1) := by decide +kernel
theorem dX6_tells_15 : decode cX6_tells 15 = .ok (.aload_n 0, 1) := by decide +kernel
theorem dX6_tells_16 : decode cX6_tells 16 = .ok (.iconst 1, 1) := by decide +kernel
theorem dX6_tells_17 : decode cX6_tells 17 = .ok (.aload_n 0, 1) := by decide +kernel
theorem dX6_tells_18 : decode cX6_tells 18 = .ok (.getfield 19, 3) := by decide +kernel
theorem dX6_tells_21 : decode cX6_tells 21 = .ok (.invokevirtual 149, 3) := by decide +kernel
theorem dX6_tells_24 : decode cX6_tells 24 = .ok (.iconst 1, 1) := by decide +kernel
theorem dX6_tells_25 : decode cX6_tells 25 = .ok (.istore_n 2, 1) := by decide +kernel
theorem dX6_tells_26 : decode cX6_tells 26 = .ok (.iload_n 2, 1) := by decide +kernel
theorem dX6_tells_27 : decode cX6_tells 27 = .ok (.bipush 100, 2) := by decide +kernel
theorem dX6_tells_29 : decode cX6_tells 29 = .ok (.if_icmp .gt 21, 3) := by decide +kernel
theorem dX6_tells_32 : decode cX6_tells 32 = .ok (.aload_n 0, 1) := by decide +kernel
theorem dX6_tells_33 : decode cX6_tells 33 = .ok (.iload_n 1, 1) := by decide +kernel
theorem dX6_tells_34 : decode cX6_tells 34 = .ok (.invokevirtual 88, 3) := by decide +kernel
theorem dX6_tells_37 : decode cX6_tells 37 = .ok (.ifCond .ne 13, 3) := by decide +kernel
theorem dX6_tells_40 : decode cX6_tells 40 = .ok (.aload_n 0, 1) := by decide +kernel
theorem dX6_tells_41 : decode cX6_tells 41 = .ok (.invokevirtual 141, 3) := by decide +kernel
theorem dX6_tells_44 : decode cX6_tells 44 = .ok (.iinc 2 1, 3) := by decide +kernel
theorem dX6_tells_47 : decode cX6_tells 47 = .ok (.goto (-21), 3) := by decide +kernel
theorem dX6_tells_50 : decode cX6_tells 50 = .ok (.aload_n 0, 1) := by decide +kernel
theorem dX6_tells_51 : decode cX6_tells 51 = .ok (.iconst 0, 1) := by decide +kernel
theorem dX6_tells_52 : decode cX6_tells 52 = .ok (.aload_n 0, 1) := by decide +kernel
theorem dX6_tells_53 : decode cX6_tells 53 = .ok (.getfield 19, 3) := by decide +kernel
theorem dX6_tells_56 : decode cX6_tells 56 = .ok (.invokevirtual 149, 3) := by decide +kernel
theorem dX6_tells_59 : decode cX6_tells 59 = .ok (.iload_n 2, 1) := by decide +kernel
theorem dX6_tells_60 : decode cX6_tells 60 = .ok (.bipush 100, 2) := by decide +kernel
theorem dX6_tells_62 : decode cX6_tells 62 = .ok (.if_icmp .le 12, 3) := by decide +kernel
theorem dX6_tells_65 : decode cX6_tells 65 = .ok (.aload_n 0, 1) := by decide +kernel
theorem dX6_tells_66 : decode cX6_tells 66 = .ok (.ldc 156, 2) := by decide +kernel
theorem dX6_tells_68 : decode cX6_tells 68 = .ok (.invokevirtual 85, 3) := by decide +kernel
theorem dX6_tells_71 : decode cX6_tells 71 = .ok (.goto 4, 3) := by decide +kernel
theorem dX6_tells_74 : decode cX6_tells 74 = .ok (.iload_n 2, 1) := by decide +kernel
theorem dX6_tells_75 : decode cX6_tells 75 = .ok (.ireturn, 1) := by decide +kernel
set_option maxRecDepth 20000 in
theorem ggX6_quarrels_X6_isOne : GoodIn wsX6_quarrels wsX6_isOne := goodIn_r _ [8, 9, 10, 11, 7, 12, 93, 94, 95, 96, 97, 98, 99, 100, 101, 102, 103, 104, 105, 106, 107, 108, 109, 110, 111, 112] (by decide +kernel) (by decide +kernel)
set_option maxRecDepth 20000 in
theorem gX6_quarrels_X6_isOne : GoodIn wsX6_quarrels (wsV RX6 114 RX6 yX6_isOne wsX6_isOne) := goodIn_app (goodIn_of _ (by decide +kernel)) ggX6_quarrels_X6_isOne
set_option maxRecDepth 20000 in
theorem ggX6_quarrels_X6_finds : GoodIn wsX6_quarrels wsX6_finds := goodIn_r _ [16, 17, 1, 93, 94, 95, 96, 97, 98, 99, 100, 101, 102, 103, 104, 105, 106, 107, 108, 109, 110, 111, 112] (by decide +kernel) (by decide +kernel)
set_option maxRecDepth 20000 in
theorem gX6_quarrels_X6_finds : GoodIn wsX6_quarrels (wsV RX6 85 RX6 yX6_finds wsX6_finds) := goodIn_app (goodIn_of _ (by decide +kernel)) ggX6_quarrels_X6_finds
set_option maxRecDepth 20000 in
theorem ggX6_quarrels_X6_moveAll : GoodIn wsX6_quarrels wsX6_moveAll := goodIn_r _ [21, 9, 93, 94, 95, 96, 97, 98, 99, 100, 101, 102, 103, 104, 105, 106, 107, 108, 109, 110, 111, 112] (by decide +kernel) (by decide +kernel)
set_option maxRecDepth 20000 in
theorem gX6_quarrels_X6_moveAll : GoodIn wsX6_quarrels (wsV RX6 149 RX6 yX6_moveAll wsX6_moveAll) := goodIn_app (goodIn_of _ (by decide +kernel)) ggX6_quarrels_X6_moveAll
set_option maxRecDepth 20000 in
theorem ggX6_quarrels_X6_its : GoodIn wsX6_quarrels wsX6_its := goodIn_r _ [25, 9, 93, 94, 95, 96, 97, 98, 99, 100, 101, 102, 103, 104, 105, 106, 107, 108, 109, 110, 111, 112] (by decide +kernel) (by decide +kernel)
set_option maxRecDepth 20000 in
theorem gX6_quarrels_X6_its : GoodIn wsX6_quarrels (wsV RX6 52 RX6 yX6_its wsX6_its) := goodIn_app (goodIn_of _ (by decide +kernel)) ggX6_quarrels_X6_its
set_option maxRecDepth 20000 in
theorem ggX6_quarrels_X6_oneCourse : GoodIn wsX6_quarrels wsX6_oneCourse := goodIn_r _ [29, 9, 30, 31, 32, 33, 7, 34, 35, 36, 37, 38, 22, 23, 24, 25, 39, 40, 41, 42, 43, 44, 45, 46, 47, 48, 49, 50, 51, 52, 53, 54, 55, 56, 57, 58, 59, 60, 61, 62, 63, 64, 65, 66, 67, 68, 69, 70, 71, 72, 73, 74, 75, 76, 77, 78, 79, 80, 81, 82, 83, 84, 85, 86, 87, 88, 89, 90, 91, 92, 93, 94, 95, 96, 97, 98, 99, 100, 101, 102, 103, 104, 105, 106, 107, 108, 109, 110, 111, 112] (by decide +kernel) (by decide +kernel)
set_option maxRecDepth 20000 in
theorem gX6_quarrels_X6_oneCourse : GoodIn wsX6_quarrels (wsV RX6 141 RX6 yX6_oneCourse wsX6_oneCourse) := goodIn_app (goodIn_of _ (by decide +kernel)) ggX6_quarrels_X6_oneCourse
theorem dX6_quarrels_0 : decode cX6_quarrels 0 = .ok (.aload_n 0, 1) := by decide +kernel
theorem dX6_quarrels_1 : decode cX6_quarrels 1 = .ok (.iload_n 1, 1) := by decide +kernel
theorem dX6_quarrels_2 : decode cX6_quarrels 2 = .ok (.invokevirtual 114, 3) := by decide +kernel
theorem dX6_quarrels_5 : decode cX6_quarrels 5 = .ok (.ifCond .ne 10, 3) := by decide +kernel
theorem dX6_quarrels_8 : decode cX6_quarrels 8 = .ok (.aload_n 0, 1) := by decide +kernel
theorem dX6_quarrels_9 : decode cX6_quarrels 9 = .ok (.ldc 47, 2) := by decide +kernel
theorem dX6_quarrels_11 : decode cX6_quarrels 11 = .ok (.invokevirtual 85, 3) := by decide +kernel
theorem dX6_quarrels_14 : decode cX6_quarrels 14 = .ok (.ireturn, 1) := by decide +kernel
theorem dX6_quarrels_15 : decode cX6_quarrels 15 = .ok (.aload_n 0, 1) := by decide +kernel
theorem dX6_quarrels_16 : decode cX6_quarrels 16 = .ok (.iconst 1, 1) := by decide +kernel
theorem dX6_quarrels_17 : decode cX6_quarrels 17 = .ok (.aload_n 0, 1) := by decide +kernel
theorem dX6_quarrels_18 : decode cX6_quarrels 18 = .ok (.getfield 19, 3) := by decide +kernel
theorem dX6_quarrels_21 : decode cX6_quarrels 21 = .ok (.invokevirtual 149, 3) := by decide +kernel
theorem dX6_quarrels_24 : decode cX6_quarrels 24 = .ok (.aload_n 0, 1) := by decide +kernel
theorem dX6_quarrels_25 : decode cX6_quarrels 25 = .ok (.iload_n 1, 1) := by decide +kernel
theorem dX6_quarrels_26 : decode cX6_quarrels 26 = .ok (.iconst 4, 1) := by decide +kernel
theorem dX6_quarrels_27 : decode cX6_quarrels 27 = .ok (.invokevirtual 52, 3) := by decide +kernel
theorem dX6_quarrels_30 : decode cX6_quarrels 30 = .ok (.istore_n 2, 1) := by decide +kernel
theorem dX6_quarrels_31 : decode cX6_quarrels 31 = .ok (.iconst 0, 1) := by decide +kernel
theorem dX6_quarrels_32 : decode cX6_quarrels 32 = .ok (.istore_n 3, 1) := by decide +kernel
theorem dX6_quarrels_33 : decode cX6_quarrels 33 = .ok (.iload_n 3, 1) := by decide +kernel
theorem dX6_quarrels_34 : decode cX6_quarrels 34 = .ok (.bipush 100, 2) := by decide +kernel
theorem dX6_quarrels_36 : decode cX6_quarrels 36 = .ok (.if_icmp .gt 23, 3) := by decide +kernel
theorem dX6_quarrels_39 : decode cX6_quarrels 39 = .ok (.aload_n 0, 1) := by decide +kernel
theorem dX6_quarrels_40 : decode cX6_quarrels 40 = .ok (.iload_n 1, 1) := by decide +kernel
theorem dX6_quarrels_41 : decode cX6_quarrels 41 = .ok (.iconst 4, 1) := by decide +kernel
theorem dX6_quarrels_42 : decode cX6_quarrels 42 = .ok (.invokevirtual 52, 3) := by decide +kernel
theorem dX6_quarrels_45 : decode cX6_quarrels 45 = .ok (.iload_n 2, 1) := by decide +kernel
theorem dX6_quarrels_46 : decode cX6_quarrels 46 = .ok (.if_icmp .ne 13, 3) := by decide +kernel
theorem dX6_quarrels_49 : decode cX6_quarrels 49 = .ok (.aload_n 0, 1) := by decide +kernel
theorem dX6_quarrels_50 : decode cX6_quarrels 50 = .ok (.invokevirtual 141, 3) := by decide +kernel
theorem dX6_quarrels_53 : decode cX6_quarrels 53 = .ok (.iinc 3 1, 3) := by decide +kernel
theorem dX6_quarrels_56 : decode cX6_quarrels 56 = .ok (.goto (-23), 3) := by decide +kernel
theorem dX6_quarrels_59 : decode cX6_quarrels 59 = .ok (.aload_n 0, 1) := by decide +kernel
theorem dX6_quarrels_60 : decode cX6_quarrels 60 = .ok (.iconst 0, 1) := by decide +kernel
theorem dX6_quarrels_61 : decode cX6_quarrels 61 = .ok (.aload_n 0, 1) := by decide +kernel
theorem dX6_quarrels_62 : decode cX6_quarrels 62 = .ok (.getfield 19, 3) := by decide +kernel
theorem dX6_quarrels_65 : decode cX6_quarrels 65 = .ok (.invokevirtual 149, 3) := by decide +kernel
theorem dX6_quarrels_68 : decode cX6_quarrels 68 = .ok (.iload_n 3, 1) := by decide +kernel
theorem dX6_quarrels_69 : decode cX6_quarrels 69 = .ok (.bipush 100, 2) := by decide +kernel
theorem dX6_quarrels_71 : decode cX6_quarrels 71 = .ok (.if_icmp .le 12, 3) := by decide +kernel
theorem dX6_quarrels_74 : decode cX6_quarrels 74 = .ok (.aload_n 0, 1) := by decide +kernel
theorem dX6_quarrels_75 : decode cX6_quarrels 75 = .ok (.ldc 156, 2) := by decide +kernel
theorem dX6_quarrels_77 : decode cX6_quarrels 77 = .ok (.invokevirtual 85, 3) := by decide +kernel
theorem dX6_quarrels_80 : decode cX6_quarrels 80 = .ok (.goto 4, 3) := by decide +kernel
theorem dX6_quarrels_83 : decode cX6_quarrels 83 = .ok (.iload_n 3, 1) := by decide +kernel
theorem dX6_quarrels_84 : decode cX6_quarrels 84 = .ok (.ireturn, 1) := by decide +kernel
set_option maxRecDepth 20000 in
theorem ggX6_easeBehind_X6_passes : GoodIn wsX6_easeBehind wsX6_passes := goodIn_r _ [6, 7, 8, 9, 5, 10, 11, 12, 13, 14, 15, 16, 17, 18, 19, 20, 21, 22, 23, 24, 25, 26, 27, 28, 29, 30, 31, 32, 33, 34, 35, 36, 37, 38, 39, 40, 41, 42, 43, 44, 45, 46, 47, 48, 49, 50, 51, 52, 53, 54, 55, 56, 57, 58, 59, 60, 61, 62, 63, 64, 65, 66, 67, 68, 69, 70, 71, 72, 73, 74, 75, 76, 77, 78, 83, 84, 85, 86, 87, 88, 89, 90, 91, 92, 93, 94, 95, 96, 97, 98, 99, 100, 101, 102] (by decide +kernel) (by decide +kernel)
set_option maxRecDepth 20000 in
theorem gX6_easeBehind_X6_passes : GoodIn wsX6_easeBehind (wsV RX6 145 RX6 yX6_passes wsX6_passes) := goodIn_app (goodIn_of _ (by decide +kernel)) ggX6_easeBehind_X6_passes
set_option maxRecDepth 20000 in
theorem ggX6_easeBehind_X6_its : GoodIn wsX6_easeBehind wsX6_its := goodIn_r _ [24, 11, 83, 84, 85, 86, 87, 88, 89, 90, 91, 92, 93, 94, 95, 96, 97, 98, 99, 100, 101, 102] (by decide +kernel) (by decide +kernel)
set_option maxRecDepth 20000 in
theorem gX6_easeBehind_X6_its : GoodIn wsX6_easeBehind (wsV RX6 52 RX6 yX6_its wsX6_its) := goodIn_app (goodIn_of _ (by decide +kernel)) ggX6_easeBehind_X6_its
set_option maxRecDepth 20000 in
theorem ggX6_easeBehind_X6_moveAll : GoodIn wsX6_easeBehind wsX6_moveAll := goodIn_r _ [82, 11, 83, 84, 85, 86, 87, 88, 89, 90, 91, 92, 93, 94, 95, 96, 97, 98, 99, 100, 101, 102] (by decide +kernel) (by decide +kernel)
set_option maxRecDepth 20000 in
theorem gX6_easeBehind_X6_moveAll : GoodIn wsX6_easeBehind (wsV RX6 149 RX6 yX6_moveAll wsX6_moveAll) := goodIn_app (goodIn_of _ (by decide +kernel)) ggX6_easeBehind_X6_moveAll
theorem dX6_easeBehind_0 : decode cX6_easeBehind 0 = .ok (.aload_n 0, 1) := by decide +kernel
theorem dX6_easeBehind_1 : decode cX6_easeBehind 1 = .ok (.iload_n 2, 1) := by decide +kernel
theorem dX6_easeBehind_2 : decode cX6_easeBehind 2 = .ok (.invokevirtual 145, 3) := by decide +kernel
theorem dX6_easeBehind_5 : decode cX6_easeBehind 5 = .ok (.aload_n 0, 1) := by decide +kernel
theorem dX6_easeBehind_6 : decode cX6_easeBehind 6 = .ok (.iload_n 1, 1) := by decide +kernel
theorem dX6_easeBehind_7 : decode cX6_easeBehind 7 = .ok (.iconst 2, 1) := by decide +kernel
theorem dX6_easeBehind_8 : decode cX6_easeBehind 8 = .ok (.invokevirtual 52, 3) := by decide +kernel
theorem dX6_easeBehind_11 : decode cX6_easeBehind 11 = .ok (.istore_n 3, 1) := by decide +kernel
theorem dX6_easeBehind_12 : decode cX6_easeBehind 12 = .ok (.aload_n 0, 1) := by decide +kernel
theorem dX6_easeBehind_13 : decode cX6_easeBehind 13 = .ok (.iconst 0, 1) := by decide +kernel
theorem dX6_easeBehind_14 : decode cX6_easeBehind 14 = .ok (.aload_n 0, 1) := by decide +kernel
theorem dX6_easeBehind_15 : decode cX6_easeBehind 15 = .ok (.getfield 19, 3) := by decide +kernel
theorem dX6_easeBehind_18 : decode cX6_easeBehind 18 = .ok (.invokevirtual 149, 3) := by decide +kernel
theorem dX6_easeBehind_21 : decode cX6_easeBehind 21 = .ok (.iload_n 3, 1) := by decide +kernel
theorem dX6_easeBehind_22 : decode cX6_easeBehind 22 = .ok (.ireturn, 1) := by decide +kernel
set_option maxRecDepth 20000 in
theorem ggX6_best_X6_isOne : GoodIn wsX6_best wsX6_isOne := goodIn_r _ [7, 8, 9, 10, 6, 11, 100, 101, 102, 103, 104, 105, 106, 107, 108, 109, 110, 111, 112, 113, 114, 115, 116, 117, 118, 119] (by decide +kernel) (by decide +kernel)
set_option maxRecDepth 20000 in
theorem gX6_best_X6_isOne : GoodIn wsX6_best (wsV RX6 114 RX6 yX6_isOne wsX6_isOne) := goodIn_app (goodIn_of _ (by decide +kernel)) ggX6_best_X6_isOne
set_option maxRecDepth 20000 in
theorem ggX6_best_X6_in : GoodIn wsX6_best wsX6_in := goodIn_r _ [11] (by decide +kernel) (by decide +kernel)
set_option maxRecDepth 20000 in
theorem gX6_best_X6_in : GoodIn wsX6_best (va_wsS RX6 48 yX6_in wsX6_in) := goodIn_app (goodIn_of _ (by decide +kernel)) ggX6_best_X6_in
set_option maxRecDepth 20000 in
theorem ggX6_best_X6_finds : GoodIn wsX6_best wsX6_finds := goodIn_r _ [15, 16, 1, 100, 101, 102, 103, 104, 105, 106, 107, 108, 109, 110, 111, 112, 113, 114, 115, 116, 117, 118, 119] (by decide +kernel) (by decide +kernel)
set_option maxRecDepth 20000 in
theorem gX6_best_X6_finds : GoodIn wsX6_best (wsV RX6 85 RX6 yX6_finds wsX6_finds) := goodIn_app (goodIn_of _ (by decide +kernel)) ggX6_best_X6_finds
set_option maxRecDepth 20000 in
theorem ggX6_best_X6_moveAll : GoodIn wsX6_best wsX6_moveAll := goodIn_r _ [20, 8, 100, 101, 102, 103, 104, 105, 106, 107, 108, 109, 110, 111, 112, 113, 114, 115, 116, 117, 118, 119] (by decide +kernel) (by decide +kernel)
set_option maxRecDepth 20000 in
theorem gX6_best_X6_moveAll : GoodIn wsX6_best (wsV RX6 149 RX6 yX6_moveAll wsX6_moveAll) := goodIn_app (goodIn_of _ (by decide +kernel)) ggX6_best_X6_moveAll
set_option maxRecDepth 20000 in
theorem ggX6_best_X6_whoAt : GoodIn wsX6_best wsX6_whoAt := goodIn_r _ [24, 8, 25, 26, 27, 6, 28, 100, 101, 102, 103, 104, 105, 106, 107, 108, 109, 110, 111, 112, 113, 114, 115, 116, 117, 118, 119] (by decide +kernel) (by decide +kernel)
set_option maxRecDepth 20000 in
theorem gX6_best_X6_whoAt : GoodIn wsX6_best (wsV RX6 56 RX6 yX6_whoAt wsX6_whoAt) := goodIn_app (goodIn_of _ (by decide +kernel)) ggX6_best_X6_whoAt
set_option maxRecDepth 20000 in
theorem ggX6_best_X6_puts : GoodIn wsX6_best wsX6_puts := goodIn_r _ [32, 8, 100, 101, 102, 103, 104, 105, 106, 107, 108, 109, 110, 111, 112, 113, 114, 115, 116, 117, 118, 119] (by decide +kernel) (by decide +kernel)
set_option maxRecDepth 20000 in
theorem gX6_best_X6_puts : GoodIn wsX6_best (wsV RX6 101 RX6 yX6_puts wsX6_puts) := goodIn_app (goodIn_of _ (by decide +kernel)) ggX6_best_X6_puts
set_option maxRecDepth 20000 in
theorem ggX6_best_X6_easeBehind : GoodIn wsX6_best wsX6_easeBehind := goodIn_r _ [36, 2, 37, 38, 39, 6, 40, 41, 42, 43, 44, 8, 45, 46, 47, 48, 49, 50, 51, 52, 53, 25, 26, 27, 28, 54, 55, 56, 57, 58, 59, 60, 61, 62, 63, 64, 65, 66, 67, 68, 69, 21, 22, 23, 24, 70, 71, 72, 73, 74, 75, 76, 77, 78, 79, 80, 29, 30, 31, 32, 81, 82, 83, 84, 85, 86, 87, 88, 89, 90, 91, 92, 93, 94, 95, 96, 97, 98, 99, 17, 18, 19, 20, 100, 101, 102, 103, 104, 105, 106, 107, 108, 109, 110, 111, 112, 113, 114, 115, 116, 117, 118, 119] (by decide +kernel) (by decide +kernel)
set_option maxRecDepth 20000 in
theorem gX6_best_X6_easeBehind : GoodIn wsX6_best (wsV RX6 157 RX6 yX6_easeBehind wsX6_easeBehind) := goodIn_app (goodIn_of _ (by decide +kernel)) ggX6_best_X6_easeBehind
theorem dX6_best_0 : decode cX6_best 0 = .ok (.aload_n 0, 1) := by decide +kernel
theorem dX6_best_1 : decode cX6_best 1 = .ok (.iload_n 1, 1) := by decide +kernel
theorem dX6_best_2 : decode cX6_best 2 = .ok (.invokevirtual 114, 3) := by decide +kernel
theorem dX6_best_5 : decode cX6_best 5 = .ok (.ifCond .eq 13, 3) := by decide +kernel
theorem dX6_best_8 : decode cX6_best 8 = .ok (.iload_n 2, 1) := by decide +kernel
theorem dX6_best_9 : decode cX6_best 9 = .ok (.iconst 1, 1) := by decide +kernel
theorem dX6_best_10 : decode cX6_best 10 = .ok (.bipush 40, 2) := by decide +kernel
theorem dX6_best_12 : decode cX6_best 12 = .ok (.invokestatic 48, 3) := by decide +kernel
theorem dX6_best_15 : decode cX6_best 15 = .ok (.ifCond .ne 10, 3) := by decide +kernel
theorem dX6_best_18 : decode cX6_best 18 = .ok (.aload_n 0, 1) := by decide +kernel
theorem dX6_best_19 : decode cX6_best 19 = .ok (.ldc 47, 2) := by decide +kernel
theorem dX6_best_21 : decode cX6_best 21 = .ok (.invokevirtual 85, 3) := by decide +kernel
theorem dX6_best_24 : decode cX6_best 24 = .ok (.ireturn, 1) := by decide +kernel
theorem dX6_best_25 : decode cX6_best 25 = .ok (.aload_n 0, 1) := by decide +kernel
theorem dX6_best_26 : decode cX6_best 26 = .ok (.iconst 1, 1) := by decide +kernel
theorem dX6_best_27 : decode cX6_best 27 = .ok (.aload_n 0, 1) := by decide +kernel
theorem dX6_best_28 : decode cX6_best 28 = .ok (.getfield 19, 3) := by decide +kernel
theorem dX6_best_31 : decode cX6_best 31 = .ok (.invokevirtual 149, 3) := by decide +kernel
theorem dX6_best_34 : decode cX6_best 34 = .ok (.iconst (-1), 1) := by decide +kernel
theorem dX6_best_35 : decode cX6_best 35 = .ok (.istore_n 3, 1) := by decide +kernel
theorem dX6_best_36 : decode cX6_best 36 = .ok (.iconst 0, 1) := by decide +kernel
theorem dX6_best_37 : decode cX6_best 37 = .ok (.istore 4, 2) := by decide +kernel
theorem dX6_best_39 : decode cX6_best 39 = .ok (.iconst 0, 1) := by decide +kernel
theorem dX6_best_40 : decode cX6_best 40 = .ok (.istore 5, 2) := by decide +kernel
theorem dX6_best_42 : decode cX6_best 42 = .ok (.iload 5, 2) := by decide +kernel
theorem dX6_best_44 : decode cX6_best 44 = .ok (.bipush 10, 2) := by decide +kernel
theorem dX6_best_46 : decode cX6_best 46 = .ok (.if_icmp .ge 88, 3) := by decide +kernel
theorem dX6_best_49 : decode cX6_best 49 = .ok (.aload_n 0, 1) := by decide +kernel
theorem dX6_best_50 : decode cX6_best 50 = .ok (.iload 5, 2) := by decide +kernel
theorem dX6_best_52 : decode cX6_best 52 = .ok (.invokevirtual 56, 3) := by decide +kernel
theorem dX6_best_55 : decode cX6_best 55 = .ok (.istore 6, 2) := by decide +kernel
theorem dX6_best_57 : decode cX6_best 57 = .ok (.iload 6, 2) := by decide +kernel
theorem dX6_best_59 : decode cX6_best 59 = .ok (.ifCond .lt 9, 3) := by decide +kernel
theorem dX6_best_62 : decode cX6_best 62 = .ok (.iload 6, 2) := by decide +kernel
theorem dX6_best_64 : decode cX6_best 64 = .ok (.iload_n 1, 1) := by decide +kernel
theorem dX6_best_65 : decode cX6_best 65 = .ok (.if_icmp .ne 63, 3) := by decide +kernel
theorem dX6_best_68 : decode cX6_best 68 = .ok (.aload_n 0, 1) := by decide +kernel
theorem dX6_best_69 : decode cX6_best 69 = .ok (.iload_n 1, 1) := by decide +kernel
theorem dX6_best_70 : decode cX6_best 70 = .ok (.iconst 1, 1) := by decide +kernel
theorem dX6_best_71 : decode cX6_best 71 = .ok (.iload 5, 2) := by decide +kernel
theorem dX6_best_73 : decode cX6_best 73 = .ok (.invokevirtual 101, 3) := by decide +kernel
theorem dX6_best_76 : decode cX6_best 76 = .ok (.aload_n 0, 1) := by decide +kernel
theorem dX6_best_77 : decode cX6_best 77 = .ok (.iload_n 1, 1) := by decide +kernel
theorem dX6_best_78 : decode cX6_best 78 = .ok (.iload_n 2, 1) := by decide +kernel
theorem dX6_best_79 : decode cX6_best 79 = .ok (.invokevirtual 157, 3) := by decide +kernel
theorem dX6_best_82 : decode cX6_best 82 = .ok (.istore 7, 2) := by decide +kernel
theorem dX6_best_84 : decode cX6_best 84 = .ok (.iload_n 3, 1) := by decide +kernel
theorem dX6_best_85 : decode cX6_best 85 = .ok (.ifCond .lt 10, 3) := by decide +kernel
theorem dX6_best_88 : decode cX6_best 88 = .ok (.iload 7, 2) := by decide +kernel
theorem dX6_best_90 : decode cX6_best 90 = .ok (.iload 4, 2) := by decide +kernel
theorem dX6_best_92 : decode cX6_best 92 = .ok (.if_icmp .le 7, 3) := by decide +kernel
theorem dX6_best_95 : decode cX6_best 95 = .ok (.iconst 1, 1) := by decide +kernel
theorem dX6_best_96 : decode cX6_best 96 = .ok (.goto 4, 3) := by decide +kernel
theorem dX6_best_99 : decode cX6_best 99 = .ok (.iconst 0, 1) := by decide +kernel
theorem dX6_best_100 : decode cX6_best 100 = .ok (.istore 8, 2) := by decide +kernel
theorem dX6_best_102 : decode cX6_best 102 = .ok (.iload 8, 2) := by decide +kernel
theorem dX6_best_104 : decode cX6_best 104 = .ok (.ifCond .eq 8, 3) := by decide +kernel
theorem dX6_best_107 : decode cX6_best 107 = .ok (.iload 5, 2) := by decide +kernel
theorem dX6_best_109 : decode cX6_best 109 = .ok (.goto 4, 3) := by decide +kernel
theorem dX6_best_112 : decode cX6_best 112 = .ok (.iload_n 3, 1) := by decide +kernel
theorem dX6_best_113 : decode cX6_best 113 = .ok (.istore_n 3, 1) := by decide +kernel
theorem dX6_best_114 : decode cX6_best 114 = .ok (.iload 8, 2) := by decide +kernel
theorem dX6_best_116 : decode cX6_best 116 = .ok (.ifCond .eq 8, 3) := by decide +kernel
theorem dX6_best_119 : decode cX6_best 119 = .ok (.iload 7, 2) := by decide +kernel
theorem dX6_best_121 : decode cX6_best 121 = .ok (.goto 5, 3) := by decide +kernel
theorem dX6_best_124 : decode cX6_best 124 = .ok (.iload 4, 2) := by decide +kernel
theorem dX6_best_126 : decode cX6_best 126 = .ok (.istore 4, 2) := by decide +kernel
theorem dX6_best_128 : decode cX6_best 128 = .ok (.iinc 5 1, 3) := by decide +kernel
theorem dX6_best_131 : decode cX6_best 131 = .ok (.goto (-89), 3) := by decide +kernel
theorem dX6_best_134 : decode cX6_best 134 = .ok (.iload_n 3, 1) := by decide +kernel
theorem dX6_best_135 : decode cX6_best 135 = .ok (.ireturn, 1) := by decide +kernel
set_option maxRecDepth 20000 in
theorem ggX6_laid_X6_isPlace : GoodIn wsX6_laid wsX6_isPlace := goodIn_r _ [7, 8, 9, 6, 10] (by decide +kernel) (by decide +kernel)
set_option maxRecDepth 20000 in
theorem gX6_laid_X6_isPlace : GoodIn wsX6_laid (va_wsS RX6 79 yX6_isPlace wsX6_isPlace) := goodIn_app (goodIn_of _ (by decide +kernel)) ggX6_laid_X6_isPlace
set_option maxRecDepth 20000 in
theorem ggX6_laid_X6_in : GoodIn wsX6_laid wsX6_in := goodIn_r _ [10] (by decide +kernel) (by decide +kernel)
set_option maxRecDepth 20000 in
theorem gX6_laid_X6_in : GoodIn wsX6_laid (va_wsS RX6 48 yX6_in wsX6_in) := goodIn_app (goodIn_of _ (by decide +kernel)) ggX6_laid_X6_in
set_option maxRecDepth 20000 in
theorem ggX6_laid_X6_finds : GoodIn wsX6_laid wsX6_finds := goodIn_r _ [14, 15, 1, 103, 104, 105, 106, 107, 108, 109, 110, 111, 112, 113, 114, 115, 116, 117, 118, 119, 120, 121, 122] (by decide +kernel) (by decide +kernel)
set_option maxRecDepth 20000 in
theorem gX6_laid_X6_finds : GoodIn wsX6_laid (wsV RX6 85 RX6 yX6_finds wsX6_finds) := goodIn_app (goodIn_of _ (by decide +kernel)) ggX6_laid_X6_finds
set_option maxRecDepth 20000 in
theorem ggX6_laid_X6_moveAll : GoodIn wsX6_laid wsX6_moveAll := goodIn_r _ [19, 3, 103, 104, 105, 106, 107, 108, 109, 110, 111, 112, 113, 114, 115, 116, 117, 118, 119, 120, 121, 122] (by decide +kernel) (by decide +kernel)
set_option maxRecDepth 20000 in
theorem gX6_laid_X6_moveAll : GoodIn wsX6_laid (wsV RX6 149 RX6 yX6_moveAll wsX6_moveAll) := goodIn_app (goodIn_of _ (by decide +kernel)) ggX6_laid_X6_moveAll
set_option maxRecDepth 20000 in
theorem ggX6_laid_X6_allBehind : GoodIn wsX6_laid wsX6_allBehind := goodIn_r _ [23, 2, 24, 25, 26, 6, 27, 28, 29, 30, 31, 3, 32, 33, 34, 35, 36, 37, 38, 39, 40, 41, 42, 43, 44, 45, 46, 47, 48, 49, 50, 51, 52, 53, 54, 55, 56, 57, 58, 59, 60, 61, 62, 63, 64, 65, 66, 67, 68, 69, 70, 71, 72, 73, 74, 75, 76, 77, 78, 79, 80, 81, 82, 83, 84, 85, 86, 87, 88, 89, 90, 91, 92, 93, 94, 95, 96, 97, 98, 99, 100, 101, 102, 16, 17, 18, 19, 103, 104, 105, 106, 107, 108, 109, 110, 111, 112, 113, 114, 115, 116, 117, 118, 119, 120, 121, 122] (by decide +kernel) (by decide +kernel)
set_option maxRecDepth 20000 in
theorem gX6_laid_X6_allBehind : GoodIn wsX6_laid (wsV RX6 153 RX6 yX6_allBehind wsX6_allBehind) := goodIn_app (goodIn_of _ (by decide +kernel)) ggX6_laid_X6_allBehind
theorem dX6_laid_0 : decode cX6_laid 0 = .ok (.iload_n 1, 1) := by decide +kernel
theorem dX6_laid_1 : decode cX6_laid 1 = .ok (.invokestatic 79, 3) := by decide +kernel
theorem dX6_laid_4 : decode cX6_laid 4 = .ok (.ifCond .eq 13, 3) := by decide +kernel
theorem dX6_laid_7 : decode cX6_laid 7 = .ok (.iload_n 2, 1) := by decide +kernel
theorem dX6_laid_8 : decode cX6_laid 8 = .ok (.iconst 1, 1) := by decide +kernel
theorem dX6_laid_9 : decode cX6_laid 9 = .ok (.bipush 40, 2) := by decide +kernel
theorem dX6_laid_11 : decode cX6_laid 11 = .ok (.invokestatic 48, 3) := by decide +kernel
theorem dX6_laid_14 : decode cX6_laid 14 = .ok (.ifCond .ne 10, 3) := by decide +kernel
theorem dX6_laid_17 : decode cX6_laid 17 = .ok (.aload_n 0, 1) := by decide +kernel
theorem dX6_laid_18 : decode cX6_laid 18 = .ok (.ldc 47, 2) := by decide +kernel
theorem dX6_laid_20 : decode cX6_laid 20 = .ok (.invokevirtual 85, 3) := by decide +kernel
theorem dX6_laid_23 : decode cX6_laid 23 = .ok (.ireturn, 1) := by decide +kernel
theorem dX6_laid_24 : decode cX6_laid 24 = .ok (.aload_n 0, 1) := by decide +kernel
theorem dX6_laid_25 : decode cX6_laid 25 = .ok (.iconst 1, 1) := by decide +kernel
theorem dX6_laid_26 : decode cX6_laid 26 = .ok (.aload_n 0, 1) := by decide +kernel
theorem dX6_laid_27 : decode cX6_laid 27 = .ok (.getfield 19, 3) := by decide +kernel
theorem dX6_laid_30 : decode cX6_laid 30 = .ok (.invokevirtual 149, 3) := by decide +kernel
theorem dX6_laid_33 : decode cX6_laid 33 = .ok (.iconst (-1), 1) := by decide +kernel
theorem dX6_laid_34 : decode cX6_laid 34 = .ok (.istore_n 3, 1) := by decide +kernel
theorem dX6_laid_35 : decode cX6_laid 35 = .ok (.iconst 0, 1) := by decide +kernel
theorem dX6_laid_36 : decode cX6_laid 36 = .ok (.istore 4, 2) := by decide +kernel
theorem dX6_laid_38 : decode cX6_laid 38 = .ok (.iconst 0, 1) := by decide +kernel
theorem dX6_laid_39 : decode cX6_laid 39 = .ok (.istore 5, 2) := by decide +kernel
theorem dX6_laid_41 : decode cX6_laid 41 = .ok (.iload 5, 2) := by decide +kernel
theorem dX6_laid_43 : decode cX6_laid 43 = .ok (.iconst 4, 1) := by decide +kernel
theorem dX6_laid_44 : decode cX6_laid 44 = .ok (.if_icmp .ge 91, 3) := by decide +kernel
theorem dX6_laid_47 : decode cX6_laid 47 = .ok (.aload_n 0, 1) := by decide +kernel
theorem dX6_laid_48 : decode cX6_laid 48 = .ok (.getfield 7, 3) := by decide +kernel
theorem dX6_laid_51 : decode cX6_laid 51 = .ok (.iconst 2, 1) := by decide +kernel
theorem dX6_laid_52 : decode cX6_laid 52 = .ok (.iconst 3, 1) := by decide +kernel
theorem dX6_laid_53 : decode cX6_laid 53 = .ok (.iload_n 1, 1) := by decide +kernel
theorem dX6_laid_54 : decode cX6_laid 54 = .ok (.imul, 1) := by decide +kernel
theorem dX6_laid_55 : decode cX6_laid 55 = .ok (.iadd, 1) := by decide +kernel
theorem dX6_laid_56 : decode cX6_laid 56 = .ok (.iload 5, 2) := by decide +kernel
theorem dX6_laid_58 : decode cX6_laid 58 = .ok (.iconst 2, 1) := by decide +kernel
theorem dX6_laid_59 : decode cX6_laid 59 = .ok (.irem, 1) := by decide +kernel
theorem dX6_laid_60 : decode cX6_laid 60 = .ok (.iastore, 1) := by decide +kernel
theorem dX6_laid_61 : decode cX6_laid 61 = .ok (.aload_n 0, 1) := by decide +kernel
theorem dX6_laid_62 : decode cX6_laid 62 = .ok (.getfield 7, 3) := by decide +kernel
theorem dX6_laid_65 : decode cX6_laid 65 = .ok (.iconst 2, 1) := by decide +kernel
theorem dX6_laid_66 : decode cX6_laid 66 = .ok (.iconst 3, 1) := by decide +kernel
theorem dX6_laid_67 : decode cX6_laid 67 = .ok (.iload_n 1, 1) := by decide +kernel
theorem dX6_laid_68 : decode cX6_laid 68 = .ok (.imul, 1) := by decide +kernel
theorem dX6_laid_69 : decode cX6_laid 69 = .ok (.iadd, 1) := by decide +kernel
theorem dX6_laid_70 : decode cX6_laid 70 = .ok (.iconst 1, 1) := by decide +kernel
theorem dX6_laid_71 : decode cX6_laid 71 = .ok (.iadd, 1) := by decide +kernel
theorem dX6_laid_72 : decode cX6_laid 72 = .ok (.iload 5, 2) := by decide +kernel
theorem dX6_laid_74 : decode cX6_laid 74 = .ok (.iconst 2, 1) := by decide +kernel
theorem dX6_laid_75 : decode cX6_laid 75 = .ok (.idiv, 1) := by decide +kernel
theorem dX6_laid_76 : decode cX6_laid 76 = .ok (.iastore, 1) := by decide +kernel
theorem dX6_laid_77 : decode cX6_laid 77 = .ok (.aload_n 0, 1) := by decide +kernel
theorem dX6_laid_78 : decode cX6_laid 78 = .ok (.iload_n 2, 1) := by decide +kernel
theorem dX6_laid_79 : decode cX6_laid 79 = .ok (.iconst 2, 1) := by decide +kernel
theorem dX6_laid_80 : decode cX6_laid 80 = .ok (.invokevirtual 153, 3) := by decide +kernel
theorem dX6_laid_83 : decode cX6_laid 83 = .ok (.istore 6, 2) := by decide +kernel
theorem dX6_laid_85 : decode cX6_laid 85 = .ok (.iload_n 3, 1) := by decide +kernel
theorem dX6_laid_86 : decode cX6_laid 86 = .ok (.ifCond .lt 10, 3) := by decide +kernel
theorem dX6_laid_89 : decode cX6_laid 89 = .ok (.iload 6, 2) := by decide +kernel
theorem dX6_laid_91 : decode cX6_laid 91 = .ok (.iload 4, 2) := by decide +kernel
theorem dX6_laid_93 : decode cX6_laid 93 = .ok (.if_icmp .le 7, 3) := by decide +kernel
theorem dX6_laid_96 : decode cX6_laid 96 = .ok (.iconst 1, 1) := by decide +kernel
theorem dX6_laid_97 : decode cX6_laid 97 = .ok (.goto 4, 3) := by decide +kernel
theorem dX6_laid_100 : decode cX6_laid 100 = .ok (.iconst 0, 1) := by decide +kernel
theorem dX6_laid_101 : decode cX6_laid 101 = .ok (.istore 7, 2) := by decide +kernel
theorem dX6_laid_103 : decode cX6_laid 103 = .ok (.iload 7, 2) := by decide +kernel
theorem dX6_laid_105 : decode cX6_laid 105 = .ok (.ifCond .eq 8, 3) := by decide +kernel
theorem dX6_laid_108 : decode cX6_laid 108 = .ok (.iload 5, 2) := by decide +kernel
theorem dX6_laid_110 : decode cX6_laid 110 = .ok (.goto 4, 3) := by decide +kernel
theorem dX6_laid_113 : decode cX6_laid 113 = .ok (.iload_n 3, 1) := by decide +kernel
theorem dX6_laid_114 : decode cX6_laid 114 = .ok (.istore_n 3, 1) := by decide +kernel
theorem dX6_laid_115 : decode cX6_laid 115 = .ok (.iload 7, 2) := by decide +kernel
theorem dX6_laid_117 : decode cX6_laid 117 = .ok (.ifCond .eq 8, 3) := by decide +kernel
theorem dX6_laid_120 : decode cX6_laid 120 = .ok (.iload 6, 2) := by decide +kernel
theorem dX6_laid_122 : decode cX6_laid 122 = .ok (.goto 5, 3) := by decide +kernel
theorem dX6_laid_125 : decode cX6_laid 125 = .ok (.iload 4, 2) := by decide +kernel
theorem dX6_laid_127 : decode cX6_laid 127 = .ok (.istore 4, 2) := by decide +kernel
theorem dX6_laid_129 : decode cX6_laid 129 = .ok (.iinc 5 1, 3) := by decide +kernel
theorem dX6_laid_132 : decode cX6_laid 132 = .ok (.goto (-91), 3) := by decide +kernel
theorem dX6_laid_135 : decode cX6_laid 135 = .ok (.iload_n 3, 1) := by decide +kernel
theorem dX6_laid_136 : decode cX6_laid 136 = .ok (.ireturn, 1) := by decide +kernel
set_option maxRecDepth 20000 in
theorem ggX6_knife_X6_in : GoodIn wsX6_knife wsX6_in := goodIn_r _ [7] (by decide +kernel) (by decide +kernel)
set_option maxRecDepth 20000 in
theorem gX6_knife_X6_in : GoodIn wsX6_knife (va_wsS RX6 48 yX6_in wsX6_in) := goodIn_app (goodIn_of _ (by decide +kernel)) ggX6_knife_X6_in
set_option maxRecDepth 20000 in
theorem ggX6_knife_X6_finds : GoodIn wsX6_knife wsX6_finds := goodIn_r _ [11, 12, 1, 100, 101, 102, 103, 104, 105, 106, 107, 108, 109, 110, 111, 112, 113, 114, 115, 116, 117, 118, 119] (by decide +kernel) (by decide +kernel)
set_option maxRecDepth 20000 in
theorem gX6_knife_X6_finds : GoodIn wsX6_knife (wsV RX6 85 RX6 yX6_finds wsX6_finds) := goodIn_app (goodIn_of _ (by decide +kernel)) ggX6_knife_X6_finds
set_option maxRecDepth 20000 in
theorem ggX6_knife_X6_moveAll : GoodIn wsX6_knife wsX6_moveAll := goodIn_r _ [16, 3, 100, 101, 102, 103, 104, 105, 106, 107, 108, 109, 110, 111, 112, 113, 114, 115, 116, 117, 118, 119] (by decide +kernel) (by decide +kernel)
set_option maxRecDepth 20000 in
theorem gX6_knife_X6_moveAll : GoodIn wsX6_knife (wsV RX6 149 RX6 yX6_moveAll wsX6_moveAll) := goodIn_app (goodIn_of _ (by decide +kernel)) ggX6_knife_X6_moveAll
set_option maxRecDepth 20000 in
theorem ggX6_knife_X6_laidAt : GoodIn wsX6_knife wsX6_laidAt := goodIn_r _ [20, 3, 100, 101, 102, 103, 104, 105, 106, 107, 108, 109, 110, 111, 112, 113, 114, 115, 116, 117, 118, 119] (by decide +kernel) (by decide +kernel)
set_option maxRecDepth 20000 in
theorem gX6_knife_X6_laidAt : GoodIn wsX6_knife (wsV RX6 63 RX6 yX6_laidAt wsX6_laidAt) := goodIn_app (goodIn_of _ (by decide +kernel)) ggX6_knife_X6_laidAt
set_option maxRecDepth 20000 in
theorem ggX6_knife_X6_allBehind : GoodIn wsX6_knife wsX6_allBehind := goodIn_r _ [24, 2, 25, 26, 27, 6, 28, 29, 30, 31, 32, 3, 33, 34, 35, 36, 37, 38, 39, 40, 41, 42, 43, 44, 45, 17, 18, 19, 20, 46, 47, 48, 49, 50, 51, 52, 53, 54, 55, 56, 57, 58, 59, 60, 61, 62, 63, 64, 65, 66, 67, 68, 69, 70, 71, 72, 73, 74, 75, 76, 77, 78, 79, 80, 81, 82, 83, 84, 85, 86, 87, 88, 89, 90, 91, 92, 93, 94, 95, 96, 97, 98, 99, 13, 14, 15, 16, 100, 101, 102, 103, 104, 105, 106, 107, 108, 109, 110, 111, 112, 113, 114, 115, 116, 117, 118, 119] (by decide +kernel) (by decide +kernel)
set_option maxRecDepth 20000 in
theorem gX6_knife_X6_allBehind : GoodIn wsX6_knife (wsV RX6 153 RX6 yX6_allBehind wsX6_allBehind) := goodIn_app (goodIn_of _ (by decide +kernel)) ggX6_knife_X6_allBehind
theorem dX6_knife_0 : decode cX6_knife 0 = .ok (.iload_n 1, 1) := by decide +kernel
theorem dX6_knife_1 : decode cX6_knife 1 = .ok (.iconst 1, 1) := by decide +kernel
theorem dX6_knife_2 : decode cX6_knife 2 = .ok (.bipush 40, 2) := by decide +kernel
theorem dX6_knife_4 : decode cX6_knife 4 = .ok (.invokestatic 48, 3) := by decide +kernel
theorem dX6_knife_7 : decode cX6_knife 7 = .ok (.ifCond .ne 10, 3) := by decide +kernel
theorem dX6_knife_10 : decode cX6_knife 10 = .ok (.aload_n 0, 1) := by decide +kernel
theorem dX6_knife_11 : decode cX6_knife 11 = .ok (.ldc 47, 2) := by decide +kernel
theorem dX6_knife_13 : decode cX6_knife 13 = .ok (.invokevirtual 85, 3) := by decide +kernel
theorem dX6_knife_16 : decode cX6_knife 16 = .ok (.ireturn, 1) := by decide +kernel
theorem dX6_knife_17 : decode cX6_knife 17 = .ok (.aload_n 0, 1) := by decide +kernel
theorem dX6_knife_18 : decode cX6_knife 18 = .ok (.iconst 1, 1) := by decide +kernel
theorem dX6_knife_19 : decode cX6_knife 19 = .ok (.aload_n 0, 1) := by decide +kernel
theorem dX6_knife_20 : decode cX6_knife 20 = .ok (.getfield 19, 3) := by decide +kernel
theorem dX6_knife_23 : decode cX6_knife 23 = .ok (.invokevirtual 149, 3) := by decide +kernel
theorem dX6_knife_26 : decode cX6_knife 26 = .ok (.iconst (-1), 1) := by decide +kernel
theorem dX6_knife_27 : decode cX6_knife 27 = .ok (.istore_n 2, 1) := by decide +kernel
theorem dX6_knife_28 : decode cX6_knife 28 = .ok (.iconst 0, 1) := by decide +kernel
theorem dX6_knife_29 : decode cX6_knife 29 = .ok (.istore_n 3, 1) := by decide +kernel
theorem dX6_knife_30 : decode cX6_knife 30 = .ok (.iconst 0, 1) := by decide +kernel
theorem dX6_knife_31 : decode cX6_knife 31 = .ok (.istore 4, 2) := by decide +kernel
theorem dX6_knife_33 : decode cX6_knife 33 = .ok (.iload 4, 2) := by decide +kernel
theorem dX6_knife_35 : decode cX6_knife 35 = .ok (.bipush 10, 2) := by decide +kernel
theorem dX6_knife_37 : decode cX6_knife 37 = .ok (.if_icmp .ge 78, 3) := by decide +kernel
theorem dX6_knife_40 : decode cX6_knife 40 = .ok (.aload_n 0, 1) := by decide +kernel
theorem dX6_knife_41 : decode cX6_knife 41 = .ok (.getfield 7, 3) := by decide +kernel
theorem dX6_knife_44 : decode cX6_knife 44 = .ok (.iconst 2, 1) := by decide +kernel
theorem dX6_knife_45 : decode cX6_knife 45 = .ok (.iconst 3, 1) := by decide +kernel
theorem dX6_knife_46 : decode cX6_knife 46 = .ok (.iload 4, 2) := by decide +kernel
theorem dX6_knife_48 : decode cX6_knife 48 = .ok (.imul, 1) := by decide +kernel
theorem dX6_knife_49 : decode cX6_knife 49 = .ok (.iadd, 1) := by decide +kernel
theorem dX6_knife_50 : decode cX6_knife 50 = .ok (.iconst 1, 1) := by decide +kernel
theorem dX6_knife_51 : decode cX6_knife 51 = .ok (.aload_n 0, 1) := by decide +kernel
theorem dX6_knife_52 : decode cX6_knife 52 = .ok (.iload 4, 2) := by decide +kernel
theorem dX6_knife_54 : decode cX6_knife 54 = .ok (.iconst 0, 1) := by decide +kernel
theorem dX6_knife_55 : decode cX6_knife 55 = .ok (.invokevirtual 63, 3) := by decide +kernel
theorem dX6_knife_58 : decode cX6_knife 58 = .ok (.isub, 1) := by decide +kernel
theorem dX6_knife_59 : decode cX6_knife 59 = .ok (.iastore, 1) := by decide +kernel
theorem dX6_knife_60 : decode cX6_knife 60 = .ok (.aload_n 0, 1) := by decide +kernel
theorem dX6_knife_61 : decode cX6_knife 61 = .ok (.iload_n 1, 1) := by decide +kernel
theorem dX6_knife_62 : decode cX6_knife 62 = .ok (.iconst 2, 1) := by decide +kernel
theorem dX6_knife_63 : decode cX6_knife 63 = .ok (.invokevirtual 153, 3) := by decide +kernel
theorem dX6_knife_66 : decode cX6_knife 66 = .ok (.istore 5, 2) := by decide +kernel
theorem dX6_knife_68 : decode cX6_knife 68 = .ok (.iload_n 2, 1) := by decide +kernel
theorem dX6_knife_69 : decode cX6_knife 69 = .ok (.ifCond .lt 9, 3) := by decide +kernel
theorem dX6_knife_72 : decode cX6_knife 72 = .ok (.iload 5, 2) := by decide +kernel
theorem dX6_knife_74 : decode cX6_knife 74 = .ok (.iload_n 3, 1) := by decide +kernel
theorem dX6_knife_75 : decode cX6_knife 75 = .ok (.if_icmp .le 7, 3) := by decide +kernel
theorem dX6_knife_78 : decode cX6_knife 78 = .ok (.iconst 1, 1) := by decide +kernel
theorem dX6_knife_79 : decode cX6_knife 79 = .ok (.goto 4, 3) := by decide +kernel
theorem dX6_knife_82 : decode cX6_knife 82 = .ok (.iconst 0, 1) := by decide +kernel
theorem dX6_knife_83 : decode cX6_knife 83 = .ok (.istore 6, 2) := by decide +kernel
theorem dX6_knife_85 : decode cX6_knife 85 = .ok (.iload 6, 2) := by decide +kernel
theorem dX6_knife_87 : decode cX6_knife 87 = .ok (.ifCond .eq 8, 3) := by decide +kernel
theorem dX6_knife_90 : decode cX6_knife 90 = .ok (.iload 4, 2) := by decide +kernel
theorem dX6_knife_92 : decode cX6_knife 92 = .ok (.goto 4, 3) := by decide +kernel
theorem dX6_knife_95 : decode cX6_knife 95 = .ok (.iload_n 2, 1) := by decide +kernel
theorem dX6_knife_96 : decode cX6_knife 96 = .ok (.istore_n 2, 1) := by decide +kernel
theorem dX6_knife_97 : decode cX6_knife 97 = .ok (.iload 6, 2) := by decide +kernel
theorem dX6_knife_99 : decode cX6_knife 99 = .ok (.ifCond .eq 8, 3) := by decide +kernel
theorem dX6_knife_102 : decode cX6_knife 102 = .ok (.iload 5, 2) := by decide +kernel
theorem dX6_knife_104 : decode cX6_knife 104 = .ok (.goto 4, 3) := by decide +kernel
theorem dX6_knife_107 : decode cX6_knife 107 = .ok (.iload_n 3, 1) := by decide +kernel
theorem dX6_knife_108 : decode cX6_knife 108 = .ok (.istore_n 3, 1) := by decide +kernel
theorem dX6_knife_109 : decode cX6_knife 109 = .ok (.iinc 4 1, 3) := by decide +kernel
theorem dX6_knife_112 : decode cX6_knife 112 = .ok (.goto (-79), 3) := by decide +kernel
theorem dX6_knife_115 : decode cX6_knife 115 = .ok (.iload_n 2, 1) := by decide +kernel
theorem dX6_knife_116 : decode cX6_knife 116 = .ok (.ireturn, 1) := by decide +kernel
set_option maxRecDepth 20000 in
theorem ggX6_kind_X6_isOne : GoodIn wsX6_kind wsX6_isOne := goodIn_r _ [7, 8, 9, 10, 6, 11, 100, 101, 102, 103, 104, 105, 106, 107, 108, 109, 110, 111, 112, 113, 114, 115, 116, 117, 118, 119] (by decide +kernel) (by decide +kernel)
set_option maxRecDepth 20000 in
theorem gX6_kind_X6_isOne : GoodIn wsX6_kind (wsV RX6 114 RX6 yX6_isOne wsX6_isOne) := goodIn_app (goodIn_of _ (by decide +kernel)) ggX6_kind_X6_isOne
set_option maxRecDepth 20000 in
theorem ggX6_kind_X6_in : GoodIn wsX6_kind wsX6_in := goodIn_r _ [11] (by decide +kernel) (by decide +kernel)
set_option maxRecDepth 20000 in
theorem gX6_kind_X6_in : GoodIn wsX6_kind (va_wsS RX6 48 yX6_in wsX6_in) := goodIn_app (goodIn_of _ (by decide +kernel)) ggX6_kind_X6_in
set_option maxRecDepth 20000 in
theorem ggX6_kind_X6_finds : GoodIn wsX6_kind wsX6_finds := goodIn_r _ [15, 16, 1, 100, 101, 102, 103, 104, 105, 106, 107, 108, 109, 110, 111, 112, 113, 114, 115, 116, 117, 118, 119] (by decide +kernel) (by decide +kernel)
set_option maxRecDepth 20000 in
theorem gX6_kind_X6_finds : GoodIn wsX6_kind (wsV RX6 85 RX6 yX6_finds wsX6_finds) := goodIn_app (goodIn_of _ (by decide +kernel)) ggX6_kind_X6_finds
set_option maxRecDepth 20000 in
theorem ggX6_kind_X6_moveAll : GoodIn wsX6_kind wsX6_moveAll := goodIn_r _ [20, 8, 100, 101, 102, 103, 104, 105, 106, 107, 108, 109, 110, 111, 112, 113, 114, 115, 116, 117, 118, 119] (by decide +kernel) (by decide +kernel)
set_option maxRecDepth 20000 in
theorem gX6_kind_X6_moveAll : GoodIn wsX6_kind (wsV RX6 149 RX6 yX6_moveAll wsX6_moveAll) := goodIn_app (goodIn_of _ (by decide +kernel)) ggX6_kind_X6_moveAll
set_option maxRecDepth 20000 in
theorem ggX6_kind_X6_puts : GoodIn wsX6_kind wsX6_puts := goodIn_r _ [24, 8, 100, 101, 102, 103, 104, 105, 106, 107, 108, 109, 110, 111, 112, 113, 114, 115, 116, 117, 118, 119] (by decide +kernel) (by decide +kernel)
set_option maxRecDepth 20000 in
theorem gX6_kind_X6_puts : GoodIn wsX6_kind (wsV RX6 101 RX6 yX6_puts wsX6_puts) := goodIn_app (goodIn_of _ (by decide +kernel)) ggX6_kind_X6_puts
set_option maxRecDepth 20000 in
theorem ggX6_kind_X6_easeBehind : GoodIn wsX6_kind wsX6_easeBehind := goodIn_r _ [28, 2, 29, 30, 31, 6, 32, 33, 34, 35, 36, 8, 37, 38, 39, 40, 41, 42, 43, 44, 45, 46, 47, 48, 49, 50, 51, 52, 53, 54, 55, 56, 57, 58, 59, 60, 61, 62, 63, 64, 65, 66, 67, 68, 69, 70, 71, 72, 73, 74, 75, 76, 77, 78, 79, 80, 21, 22, 23, 24, 81, 82, 83, 84, 85, 86, 87, 88, 89, 90, 91, 92, 93, 94, 95, 96, 97, 98, 99, 17, 18, 19, 20, 100, 101, 102, 103, 104, 105, 106, 107, 108, 109, 110, 111, 112, 113, 114, 115, 116, 117, 118, 119] (by decide +kernel) (by decide +kernel)
set_option maxRecDepth 20000 in
theorem gX6_kind_X6_easeBehind : GoodIn wsX6_kind (wsV RX6 157 RX6 yX6_easeBehind wsX6_easeBehind) := goodIn_app (goodIn_of _ (by decide +kernel)) ggX6_kind_X6_easeBehind
theorem dX6_kind_0 : decode cX6_kind 0 = .ok (.aload_n 0, 1) := by decide +kernel
theorem dX6_kind_1 : decode cX6_kind 1 = .ok (.iload_n 1, 1) := by decide +kernel
theorem dX6_kind_2 : decode cX6_kind 2 = .ok (.invokevirtual 114, 3) := by decide +kernel
theorem dX6_kind_5 : decode cX6_kind 5 = .ok (.ifCond .eq 13, 3) := by decide +kernel
theorem dX6_kind_8 : decode cX6_kind 8 = .ok (.iload_n 2, 1) := by decide +kernel
theorem dX6_kind_9 : decode cX6_kind 9 = .ok (.iconst 1, 1) := by decide +kernel
theorem dX6_kind_10 : decode cX6_kind 10 = .ok (.bipush 40, 2) := by decide +kernel
theorem dX6_kind_12 : decode cX6_kind 12 = .ok (.invokestatic 48, 3) := by decide +kernel
theorem dX6_kind_15 : decode cX6_kind 15 = .ok (.ifCond .ne 10, 3) := by decide +kernel
theorem dX6_kind_18 : decode cX6_kind 18 = .ok (.aload_n 0, 1) := by decide +kernel
theorem dX6_kind_19 : decode cX6_kind 19 = .ok (.ldc 47, 2) := by decide +kernel
theorem dX6_kind_21 : decode cX6_kind 21 = .ok (.invokevirtual 85, 3) := by decide +kernel
theorem dX6_kind_24 : decode cX6_kind 24 = .ok (.ireturn, 1) := by decide +kernel
theorem dX6_kind_25 : decode cX6_kind 25 = .ok (.aload_n 0, 1) := by decide +kernel
theorem dX6_kind_26 : decode cX6_kind 26 = .ok (.iconst 1, 1) := by decide +kernel
theorem dX6_kind_27 : decode cX6_kind 27 = .ok (.aload_n 0, 1) := by decide +kernel
theorem dX6_kind_28 : decode cX6_kind 28 = .ok (.getfield 19, 3) := by decide +kernel
theorem dX6_kind_31 : decode cX6_kind 31 = .ok (.invokevirtual 149, 3) := by decide +kernel
theorem dX6_kind_34 : decode cX6_kind 34 = .ok (.iconst (-1), 1) := by decide +kernel
theorem dX6_kind_35 : decode cX6_kind 35 = .ok (.istore_n 3, 1) := by decide +kernel
theorem dX6_kind_36 : decode cX6_kind 36 = .ok (.iconst 0, 1) := by decide +kernel
theorem dX6_kind_37 : decode cX6_kind 37 = .ok (.istore 4, 2) := by decide +kernel
theorem dX6_kind_39 : decode cX6_kind 39 = .ok (.iconst 0, 1) := by decide +kernel
theorem dX6_kind_40 : decode cX6_kind 40 = .ok (.istore 5, 2) := by decide +kernel
theorem dX6_kind_42 : decode cX6_kind 42 = .ok (.iload 5, 2) := by decide +kernel
theorem dX6_kind_44 : decode cX6_kind 44 = .ok (.bipush 6, 2) := by decide +kernel
theorem dX6_kind_46 : decode cX6_kind 46 = .ok (.if_icmp .ge 69, 3) := by decide +kernel
theorem dX6_kind_49 : decode cX6_kind 49 = .ok (.aload_n 0, 1) := by decide +kernel
theorem dX6_kind_50 : decode cX6_kind 50 = .ok (.iload_n 1, 1) := by decide +kernel
theorem dX6_kind_51 : decode cX6_kind 51 = .ok (.iconst 0, 1) := by decide +kernel
theorem dX6_kind_52 : decode cX6_kind 52 = .ok (.iload 5, 2) := by decide +kernel
theorem dX6_kind_54 : decode cX6_kind 54 = .ok (.invokevirtual 101, 3) := by decide +kernel
theorem dX6_kind_57 : decode cX6_kind 57 = .ok (.aload_n 0, 1) := by decide +kernel
theorem dX6_kind_58 : decode cX6_kind 58 = .ok (.iload_n 1, 1) := by decide +kernel
theorem dX6_kind_59 : decode cX6_kind 59 = .ok (.iload_n 2, 1) := by decide +kernel
theorem dX6_kind_60 : decode cX6_kind 60 = .ok (.invokevirtual 157, 3) := by decide +kernel
theorem dX6_kind_63 : decode cX6_kind 63 = .ok (.istore 6, 2) := by decide +kernel
theorem dX6_kind_65 : decode cX6_kind 65 = .ok (.iload_n 3, 1) := by decide +kernel
theorem dX6_kind_66 : decode cX6_kind 66 = .ok (.ifCond .lt 10, 3) := by decide +kernel
theorem dX6_kind_69 : decode cX6_kind 69 = .ok (.iload 6, 2) := by decide +kernel
theorem dX6_kind_71 : decode cX6_kind 71 = .ok (.iload 4, 2) := by decide +kernel
theorem dX6_kind_73 : decode cX6_kind 73 = .ok (.if_icmp .le 7, 3) := by decide +kernel
theorem dX6_kind_76 : decode cX6_kind 76 = .ok (.iconst 1, 1) := by decide +kernel
theorem dX6_kind_77 : decode cX6_kind 77 = .ok (.goto 4, 3) := by decide +kernel
theorem dX6_kind_80 : decode cX6_kind 80 = .ok (.iconst 0, 1) := by decide +kernel
theorem dX6_kind_81 : decode cX6_kind 81 = .ok (.istore 7, 2) := by decide +kernel
theorem dX6_kind_83 : decode cX6_kind 83 = .ok (.iload 7, 2) := by decide +kernel
theorem dX6_kind_85 : decode cX6_kind 85 = .ok (.ifCond .eq 8, 3) := by decide +kernel
theorem dX6_kind_88 : decode cX6_kind 88 = .ok (.iload 5, 2) := by decide +kernel
theorem dX6_kind_90 : decode cX6_kind 90 = .ok (.goto 4, 3) := by decide +kernel
theorem dX6_kind_93 : decode cX6_kind 93 = .ok (.iload_n 3, 1) := by decide +kernel
theorem dX6_kind_94 : decode cX6_kind 94 = .ok (.istore_n 3, 1) := by decide +kernel
theorem dX6_kind_95 : decode cX6_kind 95 = .ok (.iload 7, 2) := by decide +kernel
theorem dX6_kind_97 : decode cX6_kind 97 = .ok (.ifCond .eq 8, 3) := by decide +kernel
theorem dX6_kind_100 : decode cX6_kind 100 = .ok (.iload 6, 2) := by decide +kernel
theorem dX6_kind_102 : decode cX6_kind 102 = .ok (.goto 5, 3) := by decide +kernel
theorem dX6_kind_105 : decode cX6_kind 105 = .ok (.iload 4, 2) := by decide +kernel
theorem dX6_kind_107 : decode cX6_kind 107 = .ok (.istore 4, 2) := by decide +kernel
theorem dX6_kind_109 : decode cX6_kind 109 = .ok (.iinc 5 1, 3) := by decide +kernel
theorem dX6_kind_112 : decode cX6_kind 112 = .ok (.goto (-70), 3) := by decide +kernel
theorem dX6_kind_115 : decode cX6_kind 115 = .ok (.iload_n 3, 1) := by decide +kernel
theorem dX6_kind_116 : decode cX6_kind 116 = .ok (.ireturn, 1) := by decide +kernel
set_option maxRecDepth 20000 in
theorem ggX6_spoon_X6_isPlace : GoodIn wsX6_spoon wsX6_isPlace := goodIn_r _ [8, 9, 10, 7, 11] (by decide +kernel) (by decide +kernel)
set_option maxRecDepth 20000 in
theorem gX6_spoon_X6_isPlace : GoodIn wsX6_spoon (va_wsS RX6 79 yX6_isPlace wsX6_isPlace) := goodIn_app (goodIn_of _ (by decide +kernel)) ggX6_spoon_X6_isPlace
set_option maxRecDepth 20000 in
theorem ggX6_spoon_X6_in : GoodIn wsX6_spoon wsX6_in := goodIn_r _ [11] (by decide +kernel) (by decide +kernel)
set_option maxRecDepth 20000 in
theorem gX6_spoon_X6_in : GoodIn wsX6_spoon (va_wsS RX6 48 yX6_in wsX6_in) := goodIn_app (goodIn_of _ (by decide +kernel)) ggX6_spoon_X6_in
set_option maxRecDepth 20000 in
theorem ggX6_spoon_X6_finds : GoodIn wsX6_spoon wsX6_finds := goodIn_r _ [15, 16, 1, 104, 105, 106, 107, 108, 109, 110, 111, 112, 113, 114, 115, 116, 117, 118, 119, 120, 121, 122, 123] (by decide +kernel) (by decide +kernel)
set_option maxRecDepth 20000 in
theorem gX6_spoon_X6_finds : GoodIn wsX6_spoon (wsV RX6 85 RX6 yX6_finds wsX6_finds) := goodIn_app (goodIn_of _ (by decide +kernel)) ggX6_spoon_X6_finds
set_option maxRecDepth 20000 in
theorem ggX6_spoon_X6_moveAll : GoodIn wsX6_spoon wsX6_moveAll := goodIn_r _ [20, 3, 104, 105, 106, 107, 108, 109, 110, 111, 112, 113, 114, 115, 116, 117, 118, 119, 120, 121, 122, 123] (by decide +kernel) (by decide +kernel)
set_option maxRecDepth 20000 in
theorem gX6_spoon_X6_moveAll : GoodIn wsX6_spoon (wsV RX6 149 RX6 yX6_moveAll wsX6_moveAll) := goodIn_app (goodIn_of _ (by decide +kernel)) ggX6_spoon_X6_moveAll
set_option maxRecDepth 20000 in
theorem ggX6_spoon_X6_allBehind : GoodIn wsX6_spoon wsX6_allBehind := goodIn_r _ [24, 2, 25, 26, 27, 7, 28, 29, 30, 31, 32, 3, 33, 34, 35, 36, 37, 38, 39, 40, 41, 42, 43, 44, 45, 46, 47, 48, 49, 50, 51, 52, 53, 54, 55, 56, 57, 58, 59, 60, 61, 62, 63, 64, 65, 66, 67, 68, 69, 70, 71, 72, 73, 74, 75, 76, 77, 78, 79, 80, 81, 82, 83, 84, 85, 86, 87, 88, 89, 90, 91, 92, 93, 94, 95, 96, 97, 98, 99, 100, 101, 102, 103, 17, 18, 19, 20, 104, 105, 106, 107, 108, 109, 110, 111, 112, 113, 114, 115, 116, 117, 118, 119, 120, 121, 122, 123] (by decide +kernel) (by decide +kernel)
set_option maxRecDepth 20000 in
theorem gX6_spoon_X6_allBehind : GoodIn wsX6_spoon (wsV RX6 153 RX6 yX6_allBehind wsX6_allBehind) := goodIn_app (goodIn_of _ (by decide +kernel)) ggX6_spoon_X6_allBehind
theorem dX6_spoon_0 : decode cX6_spoon 0 = .ok (.iload_n 1, 1) := by decide +kernel
theorem dX6_spoon_1 : decode cX6_spoon 1 = .ok (.invokestatic 79, 3) := by decide +kernel
theorem dX6_spoon_4 : decode cX6_spoon 4 = .ok (.ifCond .eq 26, 3) := by decide +kernel
theorem dX6_spoon_7 : decode cX6_spoon 7 = .ok (.iload_n 2, 1) := by decide +kernel
theorem dX6_spoon_8 : decode cX6_spoon 8 = .ok (.iconst 1, 1) := by decide +kernel
theorem dX6_spoon_9 : decode cX6_spoon 9 = .ok (.bipush 40, 2) := by decide +kernel
theorem dX6_spoon_11 : decode cX6_spoon 11 = .ok (.invokestatic 48, 3) := by decide +kernel
theorem dX6_spoon_14 : decode cX6_spoon 14 = .ok (.ifCond .eq 16, 3) := by decide +kernel
theorem dX6_spoon_17 : decode cX6_spoon 17 = .ok (.iload_n 3, 1) := by decide +kernel
theorem dX6_spoon_18 : decode cX6_spoon 18 = .ok (.sipush (-999), 3) := by decide +kernel
theorem dX6_spoon_21 : decode cX6_spoon 21 = .ok (.sipush 999, 3) := by decide +kernel
theorem dX6_spoon_24 : decode cX6_spoon 24 = .ok (.invokestatic 48, 3) := by decide +kernel
theorem dX6_spoon_27 : decode cX6_spoon 27 = .ok (.ifCond .ne 10, 3) := by decide +kernel
theorem dX6_spoon_30 : decode cX6_spoon 30 = .ok (.aload_n 0, 1) := by decide +kernel
theorem dX6_spoon_31 : decode cX6_spoon 31 = .ok (.ldc 47, 2) := by decide +kernel
theorem dX6_spoon_33 : decode cX6_spoon 33 = .ok (.invokevirtual 85, 3) := by decide +kernel
theorem dX6_spoon_36 : decode cX6_spoon 36 = .ok (.ireturn, 1) := by decide +kernel
theorem dX6_spoon_37 : decode cX6_spoon 37 = .ok (.aload_n 0, 1) := by decide +kernel
theorem dX6_spoon_38 : decode cX6_spoon 38 = .ok (.iconst 1, 1) := by decide +kernel
theorem dX6_spoon_39 : decode cX6_spoon 39 = .ok (.aload_n 0, 1) := by decide +kernel
theorem dX6_spoon_40 : decode cX6_spoon 40 = .ok (.getfield 19, 3) := by decide +kernel
theorem dX6_spoon_43 : decode cX6_spoon 43 = .ok (.invokevirtual 149, 3) := by decide +kernel
theorem dX6_spoon_46 : decode cX6_spoon 46 = .ok (.bipush 10, 2) := by decide +kernel
theorem dX6_spoon_48 : decode cX6_spoon 48 = .ok (.istore 4, 2) := by decide +kernel
theorem dX6_spoon_50 : decode cX6_spoon 50 = .ok (.iconst 0, 1) := by decide +kernel
theorem dX6_spoon_51 : decode cX6_spoon 51 = .ok (.istore 5, 2) := by decide +kernel
theorem dX6_spoon_53 : decode cX6_spoon 53 = .ok (.iload 4, 2) := by decide +kernel
theorem dX6_spoon_55 : decode cX6_spoon 55 = .ok (.ifCond .le 45, 3) := by decide +kernel
theorem dX6_spoon_58 : decode cX6_spoon 58 = .ok (.iload 5, 2) := by decide +kernel
theorem dX6_spoon_60 : decode cX6_spoon 60 = .ok (.ifCond .ne 40, 3) := by decide +kernel
theorem dX6_spoon_63 : decode cX6_spoon 63 = .ok (.iinc 4 (-1), 3) := by decide +kernel
theorem dX6_spoon_66 : decode cX6_spoon 66 = .ok (.aload_n 0, 1) := by decide +kernel
theorem dX6_spoon_67 : decode cX6_spoon 67 = .ok (.getfield 7, 3) := by decide +kernel
theorem dX6_spoon_70 : decode cX6_spoon 70 = .ok (.iconst 2, 1) := by decide +kernel
theorem dX6_spoon_71 : decode cX6_spoon 71 = .ok (.iconst 3, 1) := by decide +kernel
theorem dX6_spoon_72 : decode cX6_spoon 72 = .ok (.iload_n 1, 1) := by decide +kernel
theorem dX6_spoon_73 : decode cX6_spoon 73 = .ok (.imul, 1) := by decide +kernel
theorem dX6_spoon_74 : decode cX6_spoon 74 = .ok (.iadd, 1) := by decide +kernel
theorem dX6_spoon_75 : decode cX6_spoon 75 = .ok (.iconst 2, 1) := by decide +kernel
theorem dX6_spoon_76 : decode cX6_spoon 76 = .ok (.iadd, 1) := by decide +kernel
theorem dX6_spoon_77 : decode cX6_spoon 77 = .ok (.iload 4, 2) := by decide +kernel
theorem dX6_spoon_79 : decode cX6_spoon 79 = .ok (.iastore, 1) := by decide +kernel
theorem dX6_spoon_80 : decode cX6_spoon 80 = .ok (.aload_n 0, 1) := by decide +kernel
theorem dX6_spoon_81 : decode cX6_spoon 81 = .ok (.iload_n 2, 1) := by decide +kernel
theorem dX6_spoon_82 : decode cX6_spoon 82 = .ok (.iconst 2, 1) := by decide +kernel
theorem dX6_spoon_83 : decode cX6_spoon 83 = .ok (.invokevirtual 153, 3) := by decide +kernel
theorem dX6_spoon_86 : decode cX6_spoon 86 = .ok (.iload_n 3, 1) := by decide +kernel
theorem dX6_spoon_87 : decode cX6_spoon 87 = .ok (.if_icmp .lt 7, 3) := by decide +kernel
theorem dX6_spoon_90 : decode cX6_spoon 90 = .ok (.iconst 1, 1) := by decide +kernel
theorem dX6_spoon_91 : decode cX6_spoon 91 = .ok (.goto 4, 3) := by decide +kernel
theorem dX6_spoon_94 : decode cX6_spoon 94 = .ok (.iconst 0, 1) := by decide +kernel
theorem dX6_spoon_95 : decode cX6_spoon 95 = .ok (.istore 5, 2) := by decide +kernel
theorem dX6_spoon_97 : decode cX6_spoon 97 = .ok (.goto (-44), 3) := by decide +kernel
theorem dX6_spoon_100 : decode cX6_spoon 100 = .ok (.iload 5, 2) := by decide +kernel
theorem dX6_spoon_102 : decode cX6_spoon 102 = .ok (.ifCond .eq 8, 3) := by decide +kernel
theorem dX6_spoon_105 : decode cX6_spoon 105 = .ok (.iload 4, 2) := by decide +kernel
theorem dX6_spoon_107 : decode cX6_spoon 107 = .ok (.goto 9, 3) := by decide +kernel
theorem dX6_spoon_110 : decode cX6_spoon 110 = .ok (.aload_n 0, 1) := by decide +kernel
theorem dX6_spoon_111 : decode cX6_spoon 111 = .ok (.ldc 156, 2) := by decide +kernel
theorem dX6_spoon_113 : decode cX6_spoon 113 = .ok (.invokevirtual 85, 3) := by decide +kernel
theorem dX6_spoon_116 : decode cX6_spoon 116 = .ok (.ireturn, 1) := by decide +kernel
set_option maxRecDepth 20000 in
theorem ggX6_change_X6_in : GoodIn wsX6_change wsX6_in := goodIn_r _ [8] (by decide +kernel) (by decide +kernel)
set_option maxRecDepth 20000 in
theorem gX6_change_X6_in : GoodIn wsX6_change (va_wsS RX6 48 yX6_in wsX6_in) := goodIn_app (goodIn_of _ (by decide +kernel)) ggX6_change_X6_in
set_option maxRecDepth 20000 in
theorem ggX6_change_X6_finds : GoodIn wsX6_change wsX6_finds := goodIn_r _ [12, 13, 1, 105, 106, 107, 108, 109, 110, 111, 112, 113, 114, 115, 116, 117, 118, 119, 120, 121, 122, 123, 124] (by decide +kernel) (by decide +kernel)
set_option maxRecDepth 20000 in
theorem gX6_change_X6_finds : GoodIn wsX6_change (wsV RX6 85 RX6 yX6_finds wsX6_finds) := goodIn_app (goodIn_of _ (by decide +kernel)) ggX6_change_X6_finds
set_option maxRecDepth 20000 in
theorem ggX6_change_X6_moveAll : GoodIn wsX6_change wsX6_moveAll := goodIn_r _ [17, 3, 105, 106, 107, 108, 109, 110, 111, 112, 113, 114, 115, 116, 117, 118, 119, 120, 121, 122, 123, 124] (by decide +kernel) (by decide +kernel)
set_option maxRecDepth 20000 in
theorem gX6_change_X6_moveAll : GoodIn wsX6_change (wsV RX6 149 RX6 yX6_moveAll wsX6_moveAll) := goodIn_app (goodIn_of _ (by decide +kernel)) ggX6_change_X6_moveAll
set_option maxRecDepth 20000 in
theorem ggX6_change_X6_allBehind : GoodIn wsX6_change wsX6_allBehind := goodIn_r _ [21, 2, 22, 23, 24, 7, 25, 26, 27, 28, 29, 3, 30, 31, 32, 33, 34, 35, 36, 37, 38, 39, 40, 41, 42, 43, 44, 45, 46, 47, 48, 49, 50, 51, 52, 53, 54, 55, 56, 57, 58, 59, 60, 61, 62, 63, 64, 65, 66, 67, 68, 69, 70, 71, 72, 73, 74, 75, 76, 77, 78, 79, 80, 81, 82, 83, 84, 85, 86, 87, 88, 89, 90, 91, 92, 93, 94, 95, 96, 97, 98, 99, 100, 14, 15, 16, 17, 105, 106, 107, 108, 109, 110, 111, 112, 113, 114, 115, 116, 117, 118, 119, 120, 121, 122, 123, 124] (by decide +kernel) (by decide +kernel)
set_option maxRecDepth 20000 in
theorem gX6_change_X6_allBehind : GoodIn wsX6_change (wsV RX6 153 RX6 yX6_allBehind wsX6_allBehind) := goodIn_app (goodIn_of _ (by decide +kernel)) ggX6_change_X6_allBehind
set_option maxRecDepth 20000 in
theorem ggX6_change_X6_swaps : GoodIn wsX6_change wsX6_swaps := goodIn_r _ [104, 39, 40, 41, 7, 42, 3, 74, 75, 76, 77, 105, 106, 107, 108, 109, 110, 111, 112, 113, 114, 115, 116, 117, 118, 119, 120, 121, 122, 123, 124] (by decide +kernel) (by decide +kernel)
set_option maxRecDepth 20000 in
theorem gX6_change_X6_swaps : GoodIn wsX6_change (wsV RX6 130 RX6 yX6_swaps wsX6_swaps) := goodIn_app (goodIn_of _ (by decide +kernel)) ggX6_change_X6_swaps
theorem dX6_change_0 : decode cX6_change 0 = .ok (.iload_n 1, 1) := by decide +kernel
theorem dX6_change_1 : decode cX6_change 1 = .ok (.iconst 1, 1) := by decide +kernel
theorem dX6_change_2 : decode cX6_change 2 = .ok (.bipush 40, 2) := by decide +kernel
theorem dX6_change_4 : decode cX6_change 4 = .ok (.invokestatic 48, 3) := by decide +kernel
theorem dX6_change_7 : decode cX6_change 7 = .ok (.ifCond .ne 10, 3) := by decide +kernel
theorem dX6_change_10 : decode cX6_change 10 = .ok (.aload_n 0, 1) := by decide +kernel
theorem dX6_change_11 : decode cX6_change 11 = .ok (.ldc 47, 2) := by decide +kernel
theorem dX6_change_13 : decode cX6_change 13 = .ok (.invokevirtual 85, 3) := by decide +kernel
theorem dX6_change_16 : decode cX6_change 16 = .ok (.ireturn, 1) := by decide +kernel
theorem dX6_change_17 : decode cX6_change 17 = .ok (.aload_n 0, 1) := by decide +kernel
theorem dX6_change_18 : decode cX6_change 18 = .ok (.iconst 1, 1) := by decide +kernel
theorem dX6_change_19 : decode cX6_change 19 = .ok (.aload_n 0, 1) := by decide +kernel
theorem dX6_change_20 : decode cX6_change 20 = .ok (.getfield 19, 3) := by decide +kernel
theorem dX6_change_23 : decode cX6_change 23 = .ok (.invokevirtual 149, 3) := by decide +kernel
theorem dX6_change_26 : decode cX6_change 26 = .ok (.iconst (-1), 1) := by decide +kernel
theorem dX6_change_27 : decode cX6_change 27 = .ok (.istore_n 2, 1) := by decide +kernel
theorem dX6_change_28 : decode cX6_change 28 = .ok (.aload_n 0, 1) := by decide +kernel
theorem dX6_change_29 : decode cX6_change 29 = .ok (.iload_n 1, 1) := by decide +kernel
theorem dX6_change_30 : decode cX6_change 30 = .ok (.iconst 4, 1) := by decide +kernel
theorem dX6_change_31 : decode cX6_change 31 = .ok (.invokevirtual 153, 3) := by decide +kernel
theorem dX6_change_34 : decode cX6_change 34 = .ok (.istore_n 3, 1) := by decide +kernel
theorem dX6_change_35 : decode cX6_change 35 = .ok (.iconst 0, 1) := by decide +kernel
theorem dX6_change_36 : decode cX6_change 36 = .ok (.istore 4, 2) := by decide +kernel
theorem dX6_change_38 : decode cX6_change 38 = .ok (.iload 4, 2) := by decide +kernel
theorem dX6_change_40 : decode cX6_change 40 = .ok (.aload_n 0, 1) := by decide +kernel
theorem dX6_change_41 : decode cX6_change 41 = .ok (.getfield 7, 3) := by decide +kernel
theorem dX6_change_44 : decode cX6_change 44 = .ok (.iconst 1, 1) := by decide +kernel
theorem dX6_change_45 : decode cX6_change 45 = .ok (.iaload, 1) := by decide +kernel
theorem dX6_change_46 : decode cX6_change 46 = .ok (.if_icmp .ge 80, 3) := by decide +kernel
theorem dX6_change_49 : decode cX6_change 49 = .ok (.iload 4, 2) := by decide +kernel
theorem dX6_change_51 : decode cX6_change 51 = .ok (.iconst 1, 1) := by decide +kernel
theorem dX6_change_52 : decode cX6_change 52 = .ok (.iadd, 1) := by decide +kernel
theorem dX6_change_53 : decode cX6_change 53 = .ok (.istore 5, 2) := by decide +kernel
theorem dX6_change_55 : decode cX6_change 55 = .ok (.iload 5, 2) := by decide +kernel
theorem dX6_change_57 : decode cX6_change 57 = .ok (.aload_n 0, 1) := by decide +kernel
theorem dX6_change_58 : decode cX6_change 58 = .ok (.getfield 7, 3) := by decide +kernel
theorem dX6_change_61 : decode cX6_change 61 = .ok (.iconst 1, 1) := by decide +kernel
theorem dX6_change_62 : decode cX6_change 62 = .ok (.iaload, 1) := by decide +kernel
theorem dX6_change_63 : decode cX6_change 63 = .ok (.if_icmp .ge 57, 3) := by decide +kernel
theorem dX6_change_66 : decode cX6_change 66 = .ok (.aload_n 0, 1) := by decide +kernel
theorem dX6_change_67 : decode cX6_change 67 = .ok (.iload 4, 2) := by decide +kernel
theorem dX6_change_69 : decode cX6_change 69 = .ok (.iload 5, 2) := by decide +kernel
theorem dX6_change_71 : decode cX6_change 71 = .ok (.invokevirtual 130, 3) := by decide +kernel
theorem dX6_change_74 : decode cX6_change 74 = .ok (.aload_n 0, 1) := by decide +kernel
theorem dX6_change_75 : decode cX6_change 75 = .ok (.iload_n 1, 1) := by decide +kernel
theorem dX6_change_76 : decode cX6_change 76 = .ok (.iconst 4, 1) := by decide +kernel
theorem dX6_change_77 : decode cX6_change 77 = .ok (.invokevirtual 153, 3) := by decide +kernel
theorem dX6_change_80 : decode cX6_change 80 = .ok (.istore 6, 2) := by decide +kernel
theorem dX6_change_82 : decode cX6_change 82 = .ok (.iload 6, 2) := by decide +kernel
theorem dX6_change_84 : decode cX6_change 84 = .ok (.iload_n 3, 1) := by decide +kernel
theorem dX6_change_85 : decode cX6_change 85 = .ok (.if_icmp .ge 14, 3) := by decide +kernel
theorem dX6_change_88 : decode cX6_change 88 = .ok (.bipush 10, 2) := by decide +kernel
theorem dX6_change_90 : decode cX6_change 90 = .ok (.iload 4, 2) := by decide +kernel
theorem dX6_change_92 : decode cX6_change 92 = .ok (.imul, 1) := by decide +kernel
theorem dX6_change_93 : decode cX6_change 93 = .ok (.iload 5, 2) := by decide +kernel
theorem dX6_change_95 : decode cX6_change 95 = .ok (.iadd, 1) := by decide +kernel
theorem dX6_change_96 : decode cX6_change 96 = .ok (.goto 4, 3) := by decide +kernel
theorem dX6_change_99 : decode cX6_change 99 = .ok (.iload_n 2, 1) := by decide +kernel
theorem dX6_change_100 : decode cX6_change 100 = .ok (.istore_n 2, 1) := by decide +kernel
theorem dX6_change_101 : decode cX6_change 101 = .ok (.iload 6, 2) := by decide +kernel
theorem dX6_change_103 : decode cX6_change 103 = .ok (.iload_n 3, 1) := by decide +kernel
theorem dX6_change_104 : decode cX6_change 104 = .ok (.if_icmp .ge 8, 3) := by decide +kernel
theorem dX6_change_107 : decode cX6_change 107 = .ok (.iload 6, 2) := by decide +kernel
theorem dX6_change_109 : decode cX6_change 109 = .ok (.goto 4, 3) := by decide +kernel
theorem dX6_change_112 : decode cX6_change 112 = .ok (.iload_n 3, 1) := by decide +kernel
theorem dX6_change_113 : decode cX6_change 113 = .ok (.istore_n 3, 1) := by decide +kernel
theorem dX6_change_114 : decode cX6_change 114 = .ok (.iinc 5 1, 3) := by decide +kernel
theorem dX6_change_117 : decode cX6_change 117 = .ok (.goto (-62), 3) := by decide +kernel
theorem dX6_change_120 : decode cX6_change 120 = .ok (.iinc 4 1, 3) := by decide +kernel
theorem dX6_change_123 : decode cX6_change 123 = .ok (.goto (-85), 3) := by decide +kernel
theorem dX6_change_126 : decode cX6_change 126 = .ok (.iload_n 2, 1) := by decide +kernel
theorem dX6_change_127 : decode cX6_change 127 = .ok (.ifCond .ge 12, 3) := by decide +kernel
theorem dX6_change_130 : decode cX6_change 130 = .ok (.aload_n 0, 1) := by decide +kernel
theorem dX6_change_131 : decode cX6_change 131 = .ok (.ldc 156, 2) := by decide +kernel
theorem dX6_change_133 : decode cX6_change 133 = .ok (.invokevirtual 85, 3) := by decide +kernel
theorem dX6_change_136 : decode cX6_change 136 = .ok (.goto 4, 3) := by decide +kernel
theorem dX6_change_139 : decode cX6_change 139 = .ok (.iload_n 2, 1) := by decide +kernel
theorem dX6_change_140 : decode cX6_change 140 = .ok (.ireturn, 1) := by decide +kernel
set_option maxRecDepth 20000 in
theorem ggX6_feed_X6_in : GoodIn wsX6_feed wsX6_in := goodIn_r _ [8] (by decide +kernel) (by decide +kernel)
set_option maxRecDepth 20000 in
theorem gX6_feed_X6_in : GoodIn wsX6_feed (va_wsS RX6 48 yX6_in wsX6_in) := goodIn_app (goodIn_of _ (by decide +kernel)) ggX6_feed_X6_in
set_option maxRecDepth 20000 in
theorem ggX6_feed_X6_finds : GoodIn wsX6_feed wsX6_finds := goodIn_r _ [12, 13, 1, 14, 15, 16, 17, 18, 19, 20, 21, 22, 23, 24, 25, 26, 27, 28, 29, 30, 31, 32, 33] (by decide +kernel) (by decide +kernel)
set_option maxRecDepth 20000 in
theorem gX6_feed_X6_finds : GoodIn wsX6_feed (wsV RX6 85 RX6 yX6_finds wsX6_finds) := goodIn_app (goodIn_of _ (by decide +kernel)) ggX6_feed_X6_finds
theorem dX6_feed_0 : decode cX6_feed 0 = .ok (.iload_n 2, 1) := by decide +kernel
theorem dX6_feed_1 : decode cX6_feed 1 = .ok (.iconst 1, 1) := by decide +kernel
theorem dX6_feed_2 : decode cX6_feed 2 = .ok (.iconst 4, 1) := by decide +kernel
theorem dX6_feed_3 : decode cX6_feed 3 = .ok (.invokestatic 48, 3) := by decide +kernel
theorem dX6_feed_6 : decode cX6_feed 6 = .ok (.ifCond .ne 10, 3) := by decide +kernel
theorem dX6_feed_9 : decode cX6_feed 9 = .ok (.aload_n 0, 1) := by decide +kernel
theorem dX6_feed_10 : decode cX6_feed 10 = .ok (.ldc 47, 2) := by decide +kernel
theorem dX6_feed_12 : decode cX6_feed 12 = .ok (.invokevirtual 85, 3) := by decide +kernel
theorem dX6_feed_15 : decode cX6_feed 15 = .ok (.ireturn, 1) := by decide +kernel
theorem dX6_feed_16 : decode cX6_feed 16 = .ok (.aload_n 0, 1) := by decide +kernel
theorem dX6_feed_17 : decode cX6_feed 17 = .ok (.getfield 160, 3) := by decide +kernel
theorem dX6_feed_20 : decode cX6_feed 20 = .ok (.iload_n 2, 1) := by decide +kernel
theorem dX6_feed_21 : decode cX6_feed 21 = .ok (.iadd, 1) := by decide +kernel
theorem dX6_feed_22 : decode cX6_feed 22 = .ok (.bipush 120, 2) := by decide +kernel
theorem dX6_feed_24 : decode cX6_feed 24 = .ok (.if_icmp .le 10, 3) := by decide +kernel
theorem dX6_feed_27 : decode cX6_feed 27 = .ok (.aload_n 0, 1) := by decide +kernel
theorem dX6_feed_28 : decode cX6_feed 28 = .ok (.ldc 108, 2) := by decide +kernel
theorem dX6_feed_30 : decode cX6_feed 30 = .ok (.invokevirtual 85, 3) := by decide +kernel
theorem dX6_feed_33 : decode cX6_feed 33 = .ok (.ireturn, 1) := by decide +kernel
theorem dX6_feed_34 : decode cX6_feed 34 = .ok (.iload_n 2, 1) := by decide +kernel
theorem dX6_feed_35 : decode cX6_feed 35 = .ok (.iconst 1, 1) := by decide +kernel
theorem dX6_feed_36 : decode cX6_feed 36 = .ok (.isub, 1) := by decide +kernel
theorem dX6_feed_37 : decode cX6_feed 37 = .ok (.istore_n 3, 1) := by decide +kernel
theorem dX6_feed_38 : decode cX6_feed 38 = .ok (.iload_n 3, 1) := by decide +kernel
theorem dX6_feed_39 : decode cX6_feed 39 = .ok (.ifCond .lt 38, 3) := by decide +kernel
theorem dX6_feed_42 : decode cX6_feed 42 = .ok (.aload_n 0, 1) := by decide +kernel
theorem dX6_feed_43 : decode cX6_feed 43 = .ok (.getfield 25, 3) := by decide +kernel
theorem dX6_feed_46 : decode cX6_feed 46 = .ok (.aload_n 0, 1) := by decide +kernel
theorem dX6_feed_47 : decode cX6_feed 47 = .ok (.getfield 160, 3) := by decide +kernel
theorem dX6_feed_50 : decode cX6_feed 50 = .ok (.iload_n 1, 1) := by decide +kernel
theorem dX6_feed_51 : decode cX6_feed 51 = .ok (.bipush 8, 2) := by decide +kernel
theorem dX6_feed_53 : decode cX6_feed 53 = .ok (.iload_n 3, 1) := by decide +kernel
theorem dX6_feed_54 : decode cX6_feed 54 = .ok (.imul, 1) := by decide +kernel
theorem dX6_feed_55 : decode cX6_feed 55 = .ok (.ishr, 1) := by decide +kernel
theorem dX6_feed_56 : decode cX6_feed 56 = .ok (.sipush 255, 3) := by decide +kernel
theorem dX6_feed_59 : decode cX6_feed 59 = .ok (.iand, 1) := by decide +kernel
theorem dX6_feed_60 : decode cX6_feed 60 = .ok (.iastore, 1) := by decide +kernel
theorem dX6_feed_61 : decode cX6_feed 61 = .ok (.aload_n 0, 1) := by decide +kernel
theorem dX6_feed_62 : decode cX6_feed 62 = .ok (.dup, 1) := by decide +kernel
theorem dX6_feed_63 : decode cX6_feed 63 = .ok (.getfield 160, 3) := by decide +kernel
theorem dX6_feed_66 : decode cX6_feed 66 = .ok (.iconst 1, 1) := by decide +kernel
theorem dX6_feed_67 : decode cX6_feed 67 = .ok (.iadd, 1) := by decide +kernel
theorem dX6_feed_68 : decode cX6_feed 68 = .ok (.putfield 160, 3) := by decide +kernel
theorem dX6_feed_71 : decode cX6_feed 71 = .ok (.iinc 3 (-1), 3) := by decide +kernel
theorem dX6_feed_74 : decode cX6_feed 74 = .ok (.goto (-36), 3) := by decide +kernel
theorem dX6_feed_77 : decode cX6_feed 77 = .ok (.aload_n 0, 1) := by decide +kernel
theorem dX6_feed_78 : decode cX6_feed 78 = .ok (.getfield 160, 3) := by decide +kernel
theorem dX6_feed_81 : decode cX6_feed 81 = .ok (.ireturn, 1) := by decide +kernel
theorem dX6_wipe_0 : decode cX6_wipe 0 = .ok (.aload_n 0, 1) := by decide +kernel
theorem dX6_wipe_1 : decode cX6_wipe 1 = .ok (.getfield 160, 3) := by decide +kernel
theorem dX6_wipe_4 : decode cX6_wipe 4 = .ok (.istore_n 1, 1) := by decide +kernel
theorem dX6_wipe_5 : decode cX6_wipe 5 = .ok (.aload_n 0, 1) := by decide +kernel
theorem dX6_wipe_6 : decode cX6_wipe 6 = .ok (.iconst 0, 1) := by decide +kernel
theorem dX6_wipe_7 : decode cX6_wipe 7 = .ok (.putfield 160, 3) := by decide +kernel
theorem dX6_wipe_10 : decode cX6_wipe 10 = .ok (.iload_n 1, 1) := by decide +kernel
theorem dX6_wipe_11 : decode cX6_wipe 11 = .ok (.ireturn, 1) := by decide +kernel
theorem dX6_byteAt_0 : decode cX6_byteAt 0 = .ok (.iload_n 1, 1) := by decide +kernel
theorem dX6_byteAt_1 : decode cX6_byteAt 1 = .ok (.aload_n 0, 1) := by decide +kernel
theorem dX6_byteAt_2 : decode cX6_byteAt 2 = .ok (.getfield 160, 3) := by decide +kernel
theorem dX6_byteAt_5 : decode cX6_byteAt 5 = .ok (.if_icmp .ge 12, 3) := by decide +kernel
theorem dX6_byteAt_8 : decode cX6_byteAt 8 = .ok (.aload_n 0, 1) := by decide +kernel
theorem dX6_byteAt_9 : decode cX6_byteAt 9 = .ok (.getfield 25, 3) := by decide +kernel
theorem dX6_byteAt_12 : decode cX6_byteAt 12 = .ok (.iload_n 1, 1) := by decide +kernel
theorem dX6_byteAt_13 : decode cX6_byteAt 13 = .ok (.iaload, 1) := by decide +kernel
theorem dX6_byteAt_14 : decode cX6_byteAt 14 = .ok (.goto 4, 3) := by decide +kernel
theorem dX6_byteAt_17 : decode cX6_byteAt 17 = .ok (.iconst (-1), 1) := by decide +kernel
theorem dX6_byteAt_18 : decode cX6_byteAt 18 = .ok (.ireturn, 1) := by decide +kernel
set_option maxRecDepth 20000 in
theorem ggX6_isLetter_X6_in : GoodIn wsX6_isLetter wsX6_in := goodIn_r _ [4] (by decide +kernel) (by decide +kernel)
set_option maxRecDepth 20000 in
theorem gX6_isLetter_X6_in : GoodIn wsX6_isLetter (va_wsS RX6 48 yX6_in wsX6_in) := goodIn_app (goodIn_of _ (by decide +kernel)) ggX6_isLetter_X6_in
theorem dX6_isLetter_0 : decode cX6_isLetter 0 = .ok (.iload_n 0, 1) := by decide +kernel
theorem dX6_isLetter_1 : decode cX6_isLetter 1 = .ok (.bipush 97, 2) := by decide +kernel
theorem dX6_isLetter_3 : decode cX6_isLetter 3 = .ok (.bipush 122, 2) := by decide +kernel
theorem dX6_isLetter_5 : decode cX6_isLetter 5 = .ok (.invokestatic 48, 3) := by decide +kernel
theorem dX6_isLetter_8 : decode cX6_isLetter 8 = .ok (.ireturn, 1) := by decide +kernel
set_option maxRecDepth 20000 in
theorem ggX6_isDigit_X6_in : GoodIn wsX6_isDigit wsX6_in := goodIn_r _ [4] (by decide +kernel) (by decide +kernel)
set_option maxRecDepth 20000 in
theorem gX6_isDigit_X6_in : GoodIn wsX6_isDigit (va_wsS RX6 48 yX6_in wsX6_in) := goodIn_app (goodIn_of _ (by decide +kernel)) ggX6_isDigit_X6_in
theorem dX6_isDigit_0 : decode cX6_isDigit 0 = .ok (.iload_n 0, 1) := by decide +kernel
theorem dX6_isDigit_1 : decode cX6_isDigit 1 = .ok (.bipush 48, 2) := by decide +kernel
theorem dX6_isDigit_3 : decode cX6_isDigit 3 = .ok (.bipush 57, 2) := by decide +kernel
theorem dX6_isDigit_5 : decode cX6_isDigit 5 = .ok (.invokestatic 48, 3) := by decide +kernel
theorem dX6_isDigit_8 : decode cX6_isDigit 8 = .ok (.ireturn, 1) := by decide +kernel
set_option maxRecDepth 20000 in
theorem ggX6_advance_X6_byteAt : GoodIn wsX6_advance wsX6_byteAt := goodIn_r _ [13, 14, 15, 25, 26, 27, 28, 29, 30, 31, 32, 33, 34, 35, 36, 37, 38, 39, 40, 41, 42, 43, 44] (by decide +kernel) (by decide +kernel)
set_option maxRecDepth 20000 in
theorem gX6_advance_X6_byteAt : GoodIn wsX6_advance (wsV RX6 170 RX6 yX6_byteAt wsX6_byteAt) := goodIn_app (goodIn_of _ (by decide +kernel)) ggX6_advance_X6_byteAt
set_option maxRecDepth 20000 in
theorem ggX6_advance_X6_isLetter : GoodIn wsX6_advance wsX6_isLetter := goodIn_r _ [18, 19, 20, 12, 21] (by decide +kernel) (by decide +kernel)
set_option maxRecDepth 20000 in
theorem gX6_advance_X6_isLetter : GoodIn wsX6_advance (va_wsS RX6 173 yX6_isLetter wsX6_isLetter) := goodIn_app (goodIn_of _ (by decide +kernel)) ggX6_advance_X6_isLetter
set_option maxRecDepth 20000 in
theorem ggX6_advance_X6_isDigit : GoodIn wsX6_advance wsX6_isDigit := goodIn_r _ [24, 19, 20, 12, 21] (by decide +kernel) (by decide +kernel)
set_option maxRecDepth 20000 in
theorem gX6_advance_X6_isDigit : GoodIn wsX6_advance (va_wsS RX6 176 yX6_isDigit wsX6_isDigit) := goodIn_app (goodIn_of _ (by decide +kernel)) ggX6_advance_X6_isDigit
theorem dX6_advance_0 : decode cX6_advance 0 = .ok (.aload_n 0, 1) := by decide +kernel
theorem dX6_advance_1 : decode cX6_advance 1 = .ok (.aload_n 0, 1) := by decide +kernel
theorem dX6_advance_2 : decode cX6_advance 2 = .ok (.getfield 164, 3) := by decide +kernel
theorem dX6_advance_5 : decode cX6_advance 5 = .ok (.putfield 167, 3) := by decide +kernel
theorem dX6_advance_8 : decode cX6_advance 8 = .ok (.aload_n 0, 1) := by decide +kernel
theorem dX6_advance_9 : decode cX6_advance 9 = .ok (.aload_n 0, 1) := by decide +kernel
theorem dX6_advance_10 : decode cX6_advance 10 = .ok (.getfield 167, 3) := by decide +kernel
theorem dX6_advance_13 : decode cX6_advance 13 = .ok (.invokevirtual 170, 3) := by decide +kernel
theorem dX6_advance_16 : decode cX6_advance 16 = .ok (.bipush 32, 2) := by decide +kernel
theorem dX6_advance_18 : decode cX6_advance 18 = .ok (.if_icmp .ne 16, 3) := by decide +kernel
theorem dX6_advance_21 : decode cX6_advance 21 = .ok (.aload_n 0, 1) := by decide +kernel
theorem dX6_advance_22 : decode cX6_advance 22 = .ok (.dup, 1) := by decide +kernel
theorem dX6_advance_23 : decode cX6_advance 23 = .ok (.getfield 167, 3) := by decide +kernel
theorem dX6_advance_26 : decode cX6_advance 26 = .ok (.iconst 1, 1) := by decide +kernel
theorem dX6_advance_27 : decode cX6_advance 27 = .ok (.iadd, 1) := by decide +kernel
theorem dX6_advance_28 : decode cX6_advance 28 = .ok (.putfield 167, 3) := by decide +kernel
theorem dX6_advance_31 : decode cX6_advance 31 = .ok (.goto (-23), 3) := by decide +kernel
theorem dX6_advance_34 : decode cX6_advance 34 = .ok (.aload_n 0, 1) := by decide +kernel
theorem dX6_advance_35 : decode cX6_advance 35 = .ok (.aload_n 0, 1) := by decide +kernel
theorem dX6_advance_36 : decode cX6_advance 36 = .ok (.getfield 167, 3) := by decide +kernel
theorem dX6_advance_39 : decode cX6_advance 39 = .ok (.putfield 164, 3) := by decide +kernel
theorem dX6_advance_42 : decode cX6_advance 42 = .ok (.aload_n 0, 1) := by decide +kernel
theorem dX6_advance_43 : decode cX6_advance 43 = .ok (.aload_n 0, 1) := by decide +kernel
theorem dX6_advance_44 : decode cX6_advance 44 = .ok (.getfield 167, 3) := by decide +kernel
theorem dX6_advance_47 : decode cX6_advance 47 = .ok (.invokevirtual 170, 3) := by decide +kernel
theorem dX6_advance_50 : decode cX6_advance 50 = .ok (.istore_n 1, 1) := by decide +kernel
theorem dX6_advance_51 : decode cX6_advance 51 = .ok (.aload_n 0, 1) := by decide +kernel
theorem dX6_advance_52 : decode cX6_advance 52 = .ok (.iload_n 1, 1) := by decide +kernel
theorem dX6_advance_53 : decode cX6_advance 53 = .ok (.ifCond .ge 7, 3) := by decide +kernel
theorem dX6_advance_56 : decode cX6_advance 56 = .ok (.iconst 0, 1) := by decide +kernel
theorem dX6_advance_57 : decode cX6_advance 57 = .ok (.goto 26, 3) := by decide +kernel
theorem dX6_advance_60 : decode cX6_advance 60 = .ok (.iload_n 1, 1) := by decide +kernel
theorem dX6_advance_61 : decode cX6_advance 61 = .ok (.invokestatic 173, 3) := by decide +kernel
theorem dX6_advance_64 : decode cX6_advance 64 = .ok (.ifCond .eq 7, 3) := by decide +kernel
theorem dX6_advance_67 : decode cX6_advance 67 = .ok (.iconst 1, 1) := by decide +kernel
theorem dX6_advance_68 : decode cX6_advance 68 = .ok (.goto 15, 3) := by decide +kernel
theorem dX6_advance_71 : decode cX6_advance 71 = .ok (.iload_n 1, 1) := by decide +kernel
theorem dX6_advance_72 : decode cX6_advance 72 = .ok (.invokestatic 176, 3) := by decide +kernel
theorem dX6_advance_75 : decode cX6_advance 75 = .ok (.ifCond .eq 7, 3) := by decide +kernel
theorem dX6_advance_78 : decode cX6_advance 78 = .ok (.iconst 2, 1) := by decide +kernel
theorem dX6_advance_79 : decode cX6_advance 79 = .ok (.goto 4, 3) := by decide +kernel
theorem dX6_advance_82 : decode cX6_advance 82 = .ok (.iconst 3, 1) := by decide +kernel
theorem dX6_advance_83 : decode cX6_advance 83 = .ok (.putfield 179, 3) := by decide +kernel
theorem dX6_advance_86 : decode cX6_advance 86 = .ok (.aload_n 0, 1) := by decide +kernel
theorem dX6_advance_87 : decode cX6_advance 87 = .ok (.lconst 0, 1) := by decide +kernel
theorem dX6_advance_88 : decode cX6_advance 88 = .ok (.putfield 182, 3) := by decide +kernel
theorem dX6_advance_91 : decode cX6_advance 91 = .ok (.aload_n 0, 1) := by decide +kernel
theorem dX6_advance_92 : decode cX6_advance 92 = .ok (.aload_n 0, 1) := by decide +kernel
theorem dX6_advance_93 : decode cX6_advance 93 = .ok (.getfield 179, 3) := by decide +kernel
theorem dX6_advance_96 : decode cX6_advance 96 = .ok (.iconst 2, 1) := by decide +kernel
theorem dX6_advance_97 : decode cX6_advance 97 = .ok (.if_icmp .ne 7, 3) := by decide +kernel
theorem dX6_advance_100 : decode cX6_advance 100 = .ok (.iconst 0, 1) := by decide +kernel
theorem dX6_advance_101 : decode cX6_advance 101 = .ok (.goto 4, 3) := by decide +kernel
theorem dX6_advance_104 : decode cX6_advance 104 = .ok (.iload_n 1, 1) := by decide +kernel
theorem dX6_advance_105 : decode cX6_advance 105 = .ok (.putfield 186, 3) := by decide +kernel
theorem dX6_advance_108 : decode cX6_advance 108 = .ok (.aload_n 0, 1) := by decide +kernel
theorem dX6_advance_109 : decode cX6_advance 109 = .ok (.getfield 179, 3) := by decide +kernel
theorem dX6_advance_112 : decode cX6_advance 112 = .ok (.iconst 3, 1) := by decide +kernel
theorem dX6_advance_113 : decode cX6_advance 113 = .ok (.if_icmp .ne 13, 3) := by decide +kernel
theorem dX6_advance_116 : decode cX6_advance 116 = .ok (.aload_n 0, 1) := by decide +kernel
theorem dX6_advance_117 : decode cX6_advance 117 = .ok (.dup, 1) := by decide +kernel
theorem dX6_advance_118 : decode cX6_advance 118 = .ok (.getfield 164, 3) := by decide +kernel
theorem dX6_advance_121 : decode cX6_advance 121 = .ok (.iconst 1, 1) := by decide +kernel
theorem dX6_advance_122 : decode cX6_advance 122 = .ok (.iadd, 1) := by decide +kernel
theorem dX6_advance_123 : decode cX6_advance 123 = .ok (.putfield 164, 3) := by decide +kernel
theorem dX6_advance_126 : decode cX6_advance 126 = .ok (.aload_n 0, 1) := by decide +kernel
theorem dX6_advance_127 : decode cX6_advance 127 = .ok (.getfield 179, 3) := by decide +kernel
theorem dX6_advance_130 : decode cX6_advance 130 = .ok (.iconst 1, 1) := by decide +kernel
theorem dX6_advance_131 : decode cX6_advance 131 = .ok (.if_icmp .ne 76, 3) := by decide +kernel
theorem dX6_advance_134 : decode cX6_advance 134 = .ok (.aload_n 0, 1) := by decide +kernel
theorem dX6_advance_135 : decode cX6_advance 135 = .ok (.aload_n 0, 1) := by decide +kernel
theorem dX6_advance_136 : decode cX6_advance 136 = .ok (.getfield 164, 3) := by decide +kernel
theorem dX6_advance_139 : decode cX6_advance 139 = .ok (.invokevirtual 170, 3) := by decide +kernel
theorem dX6_advance_142 : decode cX6_advance 142 = .ok (.invokestatic 173, 3) := by decide +kernel
theorem dX6_advance_145 : decode cX6_advance 145 = .ok (.ifCond .eq 62, 3) := by decide +kernel
theorem dX6_advance_148 : decode cX6_advance 148 = .ok (.aload_n 0, 1) := by decide +kernel
theorem dX6_advance_149 : decode cX6_advance 149 = .ok (.aload_n 0, 1) := by decide +kernel
theorem dX6_advance_150 : decode cX6_advance 150 = .ok (.getfield 164, 3) := by decide +kernel
theorem dX6_advance_153 : decode cX6_advance 153 = .ok (.aload_n 0, 1) := by decide +kernel
theorem dX6_advance_154 : decode cX6_advance 154 = .ok (.getfield 167, 3) := by decide +kernel
theorem dX6_advance_157 : decode cX6_advance 157 = .ok (.isub, 1) := by decide +kernel
theorem dX6_advance_158 : decode cX6_advance 158 = .ok (.bipush 12, 2) := by decide +kernel
theorem dX6_advance_160 : decode cX6_advance 160 = .ok (.if_icmp .ge 28, 3) := by decide +kernel
theorem dX6_advance_163 : decode cX6_advance 163 = .ok (.ldc2_w 189, 3) := by decide +kernel
theorem dX6_advance_166 : decode cX6_advance 166 = .ok (.aload_n 0, 1) := by decide +kernel
theorem dX6_advance_167 : decode cX6_advance 167 = .ok (.getfield 182, 3) := by decide +kernel
theorem dX6_advance_170 : decode cX6_advance 170 = .ok (.lmul, 1) := by decide +kernel
theorem dX6_advance_171 : decode cX6_advance 171 = .ok (.aload_n 0, 1) := by decide +kernel
theorem dX6_advance_172 : decode cX6_advance 172 = .ok (.aload_n 0, 1) := by decide +kernel
theorem dX6_advance_173 : decode cX6_advance 173 = .ok (.getfield 164, 3) := by decide +kernel
theorem dX6_advance_176 : decode cX6_advance 176 = .ok (.invokevirtual 170, 3) := by decide +kernel
theorem dX6_advance_179 : decode cX6_advance 179 = .ok (.i2l, 1) := by decide +kernel
theorem dX6_advance_180 : decode cX6_advance 180 = .ok (.ladd, 1) := by decide +kernel
theorem dX6_advance_181 : decode cX6_advance 181 = .ok (.ldc2_w 191, 3) := by decide +kernel
theorem dX6_advance_184 : decode cX6_advance 184 = .ok (.lsub, 1) := by decide +kernel
theorem dX6_advance_185 : decode cX6_advance 185 = .ok (.goto 6, 3) := by decide +kernel
theorem dX6_advance_188 : decode cX6_advance 188 = .ok (.ldc2_w 193, 3) := by decide +kernel
theorem dX6_advance_191 : decode cX6_advance 191 = .ok (.putfield 182, 3) := by decide +kernel
theorem dX6_advance_194 : decode cX6_advance 194 = .ok (.aload_n 0, 1) := by decide +kernel
theorem dX6_advance_195 : decode cX6_advance 195 = .ok (.dup, 1) := by decide +kernel
theorem dX6_advance_196 : decode cX6_advance 196 = .ok (.getfield 164, 3) := by decide +kernel
theorem dX6_advance_199 : decode cX6_advance 199 = .ok (.iconst 1, 1) := by decide +kernel
theorem dX6_advance_200 : decode cX6_advance 200 = .ok (.iadd, 1) := by decide +kernel
theorem dX6_advance_201 : decode cX6_advance 201 = .ok (.putfield 164, 3) := by decide +kernel
theorem dX6_advance_204 : decode cX6_advance 204 = .ok (.goto (-78), 3) := by decide +kernel
theorem dX6_advance_207 : decode cX6_advance 207 = .ok (.aload_n 0, 1) := by decide +kernel
theorem dX6_advance_208 : decode cX6_advance 208 = .ok (.getfield 179, 3) := by decide +kernel
theorem dX6_advance_211 : decode cX6_advance 211 = .ok (.iconst 2, 1) := by decide +kernel
theorem dX6_advance_212 : decode cX6_advance 212 = .ok (.if_icmp .ne 69, 3) := by decide +kernel
theorem dX6_advance_215 : decode cX6_advance 215 = .ok (.aload_n 0, 1) := by decide +kernel
theorem dX6_advance_216 : decode cX6_advance 216 = .ok (.aload_n 0, 1) := by decide +kernel
theorem dX6_advance_217 : decode cX6_advance 217 = .ok (.getfield 164, 3) := by decide +kernel
theorem dX6_advance_220 : decode cX6_advance 220 = .ok (.invokevirtual 170, 3) := by decide +kernel
theorem dX6_advance_223 : decode cX6_advance 223 = .ok (.invokestatic 176, 3) := by decide +kernel
theorem dX6_advance_226 : decode cX6_advance 226 = .ok (.ifCond .eq 55, 3) := by decide +kernel
theorem dX6_advance_229 : decode cX6_advance 229 = .ok (.aload_n 0, 1) := by decide +kernel
theorem dX6_advance_230 : decode cX6_advance 230 = .ok (.aload_n 0, 1) := by decide +kernel
theorem dX6_advance_231 : decode cX6_advance 231 = .ok (.getfield 186, 3) := by decide +kernel
theorem dX6_advance_234 : decode cX6_advance 234 = .ok (.sipush 999, 3) := by decide +kernel
theorem dX6_advance_237 : decode cX6_advance 237 = .ok (.if_icmp .le 9, 3) := by decide +kernel
theorem dX6_advance_240 : decode cX6_advance 240 = .ok (.sipush 10000, 3) := by decide +kernel
theorem dX6_advance_243 : decode cX6_advance 243 = .ok (.goto 22, 3) := by decide +kernel
theorem dX6_advance_246 : decode cX6_advance 246 = .ok (.bipush 10, 2) := by decide +kernel
theorem dX6_advance_248 : decode cX6_advance 248 = .ok (.aload_n 0, 1) := by decide +kernel
theorem dX6_advance_249 : decode cX6_advance 249 = .ok (.getfield 186, 3) := by decide +kernel
theorem dX6_advance_252 : decode cX6_advance 252 = .ok (.imul, 1) := by decide +kernel
theorem dX6_advance_253 : decode cX6_advance 253 = .ok (.aload_n 0, 1) := by decide +kernel
theorem dX6_advance_254 : decode cX6_advance 254 = .ok (.aload_n 0, 1) := by decide +kernel
theorem dX6_advance_255 : decode cX6_advance 255 = .ok (.getfield 164, 3) := by decide +kernel
theorem dX6_advance_258 : decode cX6_advance 258 = .ok (.invokevirtual 170, 3) := by decide +kernel
theorem dX6_advance_261 : decode cX6_advance 261 = .ok (.iadd, 1) := by decide +kernel
theorem dX6_advance_262 : decode cX6_advance 262 = .ok (.bipush 48, 2) := by decide +kernel
theorem dX6_advance_264 : decode cX6_advance 264 = .ok (.isub, 1) := by decide +kernel
theorem dX6_advance_265 : decode cX6_advance 265 = .ok (.putfield 186, 3) := by decide +kernel
theorem dX6_advance_268 : decode cX6_advance 268 = .ok (.aload_n 0, 1) := by decide +kernel
theorem dX6_advance_269 : decode cX6_advance 269 = .ok (.dup, 1) := by decide +kernel
theorem dX6_advance_270 : decode cX6_advance 270 = .ok (.getfield 164, 3) := by decide +kernel
theorem dX6_advance_273 : decode cX6_advance 273 = .ok (.iconst 1, 1) := by decide +kernel
theorem dX6_advance_274 : decode cX6_advance 274 = .ok (.iadd, 1) := by decide +kernel
theorem dX6_advance_275 : decode cX6_advance 275 = .ok (.putfield 164, 3) := by decide +kernel
theorem dX6_advance_278 : decode cX6_advance 278 = .ok (.goto (-71), 3) := by decide +kernel
theorem dX6_advance_281 : decode cX6_advance 281 = .ok (.return_, 1) := by decide +kernel
theorem dX6_isWord_0 : decode cX6_isWord 0 = .ok (.aload_n 0, 1) := by decide +kernel
theorem dX6_isWord_1 : decode cX6_isWord 1 = .ok (.getfield 179, 3) := by decide +kernel
theorem dX6_isWord_4 : decode cX6_isWord 4 = .ok (.iconst 1, 1) := by decide +kernel
theorem dX6_isWord_5 : decode cX6_isWord 5 = .ok (.if_icmp .ne 16, 3) := by decide +kernel
theorem dX6_isWord_8 : decode cX6_isWord 8 = .ok (.aload_n 0, 1) := by decide +kernel
theorem dX6_isWord_9 : decode cX6_isWord 9 = .ok (.getfield 182, 3) := by decide +kernel
theorem dX6_isWord_12 : decode cX6_isWord 12 = .ok (.lload_n 1, 1) := by decide +kernel
theorem dX6_isWord_13 : decode cX6_isWord 13 = .ok (.lcmp, 1) := by decide +kernel
theorem dX6_isWord_14 : decode cX6_isWord 14 = .ok (.ifCond .ne 7, 3) := by decide +kernel
theorem dX6_isWord_17 : decode cX6_isWord 17 = .ok (.iconst 1, 1) := by decide +kernel
theorem dX6_isWord_18 : decode cX6_isWord 18 = .ok (.goto 4, 3) := by decide +kernel
theorem dX6_isWord_21 : decode cX6_isWord 21 = .ok (.iconst 0, 1) := by decide +kernel
theorem dX6_isWord_22 : decode cX6_isWord 22 = .ok (.ireturn, 1) := by decide +kernel
set_option maxRecDepth 20000 in
theorem ggX6_kindHere_X6_isWord : GoodIn wsX6_kindHere wsX6_isWord := goodIn_r _ [11, 12, 13, 14, 15, 16, 17, 18, 19, 20, 21, 22, 23, 24, 25, 26, 27, 28, 29, 30, 31, 32, 33] (by decide +kernel) (by decide +kernel)
set_option maxRecDepth 20000 in
theorem gX6_kindHere_X6_isWord : GoodIn wsX6_kindHere (wsV RX6 197 RX6 yX6_isWord wsX6_isWord) := goodIn_app (goodIn_of _ (by decide +kernel)) ggX6_kindHere_X6_isWord
theorem dX6_kindHere_0 : decode cX6_kindHere 0 = .ok (.aload_n 0, 1) := by decide +kernel
theorem dX6_kindHere_1 : decode cX6_kindHere 1 = .ok (.ldc2_w 195, 3) := by decide +kernel
theorem dX6_kindHere_4 : decode cX6_kindHere 4 = .ok (.invokevirtual 197, 3) := by decide +kernel
theorem dX6_kindHere_7 : decode cX6_kindHere 7 = .ok (.ifCond .eq 7, 3) := by decide +kernel
theorem dX6_kindHere_10 : decode cX6_kindHere 10 = .ok (.iconst 0, 1) := by decide +kernel
theorem dX6_kindHere_11 : decode cX6_kindHere 11 = .ok (.goto 74, 3) := by decide +kernel
theorem dX6_kindHere_14 : decode cX6_kindHere 14 = .ok (.aload_n 0, 1) := by decide +kernel
theorem dX6_kindHere_15 : decode cX6_kindHere 15 = .ok (.ldc2_w 201, 3) := by decide +kernel
theorem dX6_kindHere_18 : decode cX6_kindHere 18 = .ok (.invokevirtual 197, 3) := by decide +kernel
theorem dX6_kindHere_21 : decode cX6_kindHere 21 = .ok (.ifCond .eq 7, 3) := by decide +kernel
theorem dX6_kindHere_24 : decode cX6_kindHere 24 = .ok (.iconst 1, 1) := by decide +kernel
theorem dX6_kindHere_25 : decode cX6_kindHere 25 = .ok (.goto 60, 3) := by decide +kernel
theorem dX6_kindHere_28 : decode cX6_kindHere 28 = .ok (.aload_n 0, 1) := by decide +kernel
theorem dX6_kindHere_29 : decode cX6_kindHere 29 = .ok (.ldc2_w 203, 3) := by decide +kernel
theorem dX6_kindHere_32 : decode cX6_kindHere 32 = .ok (.invokevirtual 197, 3) := by decide +kernel
theorem dX6_kindHere_35 : decode cX6_kindHere 35 = .ok (.ifCond .eq 7, 3) := by decide +kernel
theorem dX6_kindHere_38 : decode cX6_kindHere 38 = .ok (.iconst 2, 1) := by decide +kernel
theorem dX6_kindHere_39 : decode cX6_kindHere 39 = .ok (.goto 46, 3) := by decide +kernel
theorem dX6_kindHere_42 : decode cX6_kindHere 42 = .ok (.aload_n 0, 1) := by decide +kernel
theorem dX6_kindHere_43 : decode cX6_kindHere 43 = .ok (.ldc2_w 205, 3) := by decide +kernel
theorem dX6_kindHere_46 : decode cX6_kindHere 46 = .ok (.invokevirtual 197, 3) := by decide +kernel
theorem dX6_kindHere_49 : decode cX6_kindHere 49 = .ok (.ifCond .eq 7, 3) := by decide +kernel
theorem dX6_kindHere_52 : decode cX6_kindHere 52 = .ok (.iconst 3, 1) := by decide +kernel
theorem dX6_kindHere_53 : decode cX6_kindHere 53 = .ok (.goto 32, 3) := by decide +kernel
theorem dX6_kindHere_56 : decode cX6_kindHere 56 = .ok (.aload_n 0, 1) := by decide +kernel
theorem dX6_kindHere_57 : decode cX6_kindHere 57 = .ok (.ldc2_w 207, 3) := by decide +kernel
theorem dX6_kindHere_60 : decode cX6_kindHere 60 = .ok (.invokevirtual 197, 3) := by decide +kernel
theorem dX6_kindHere_63 : decode cX6_kindHere 63 = .ok (.ifCond .eq 7, 3) := by decide +kernel
theorem dX6_kindHere_66 : decode cX6_kindHere 66 = .ok (.iconst 4, 1) := by decide +kernel
theorem dX6_kindHere_67 : decode cX6_kindHere 67 = .ok (.goto 18, 3) := by decide +kernel
theorem dX6_kindHere_70 : decode cX6_kindHere 70 = .ok (.aload_n 0, 1) := by decide +kernel
theorem dX6_kindHere_71 : decode cX6_kindHere 71 = .ok (.ldc2_w 209, 3) := by decide +kernel
theorem dX6_kindHere_74 : decode cX6_kindHere 74 = .ok (.invokevirtual 197, 3) := by decide +kernel
theorem dX6_kindHere_77 : decode cX6_kindHere 77 = .ok (.ifCond .eq 7, 3) := by decide +kernel
theorem dX6_kindHere_80 : decode cX6_kindHere 80 = .ok (.iconst 5, 1) := by decide +kernel
theorem dX6_kindHere_81 : decode cX6_kindHere 81 = .ok (.goto 4, 3) := by decide +kernel
theorem dX6_kindHere_84 : decode cX6_kindHere 84 = .ok (.iconst (-1), 1) := by decide +kernel
theorem dX6_kindHere_85 : decode cX6_kindHere 85 = .ok (.ireturn, 1) := by decide +kernel
set_option maxRecDepth 20000 in
theorem ggX6_wantNumber_X6_in : GoodIn wsX6_wantNumber wsX6_in := goodIn_r _ [7] (by decide +kernel) (by decide +kernel)
set_option maxRecDepth 20000 in
theorem gX6_wantNumber_X6_in : GoodIn wsX6_wantNumber (va_wsS RX6 48 yX6_in wsX6_in) := goodIn_app (goodIn_of _ (by decide +kernel)) ggX6_wantNumber_X6_in
set_option maxRecDepth 20000 in
theorem ggX6_wantNumber_X6_advance : GoodIn wsX6_wantNumber wsX6_advance := goodIn_r _ [11, 12, 13, 3, 14, 1, 15, 16, 17, 18, 19, 20, 6, 21, 22, 23, 24, 25, 26, 4, 5, 7, 27, 28, 29, 30, 31, 32, 33, 34, 35, 36, 37, 38, 39, 40, 41, 42, 43, 44, 45, 46, 47, 48, 49] (by decide +kernel) (by decide +kernel)
set_option maxRecDepth 20000 in
theorem gX6_wantNumber_X6_advance : GoodIn wsX6_wantNumber (wsV RX6 215 RX6 yX6_advance wsX6_advance) := goodIn_app (goodIn_of _ (by decide +kernel)) ggX6_wantNumber_X6_advance
theorem dX6_wantNumber_0 : decode cX6_wantNumber 0 = .ok (.aload_n 0, 1) := by decide +kernel
theorem dX6_wantNumber_1 : decode cX6_wantNumber 1 = .ok (.getfield 186, 3) := by decide +kernel
theorem dX6_wantNumber_4 : decode cX6_wantNumber 4 = .ok (.istore_n 3, 1) := by decide +kernel
theorem dX6_wantNumber_5 : decode cX6_wantNumber 5 = .ok (.aload_n 0, 1) := by decide +kernel
theorem dX6_wantNumber_6 : decode cX6_wantNumber 6 = .ok (.aload_n 0, 1) := by decide +kernel
theorem dX6_wantNumber_7 : decode cX6_wantNumber 7 = .ok (.getfield 211, 3) := by decide +kernel
theorem dX6_wantNumber_10 : decode cX6_wantNumber 10 = .ok (.ifCond .eq 24, 3) := by decide +kernel
theorem dX6_wantNumber_13 : decode cX6_wantNumber 13 = .ok (.aload_n 0, 1) := by decide +kernel
theorem dX6_wantNumber_14 : decode cX6_wantNumber 14 = .ok (.getfield 179, 3) := by decide +kernel
theorem dX6_wantNumber_17 : decode cX6_wantNumber 17 = .ok (.iconst 2, 1) := by decide +kernel
theorem dX6_wantNumber_18 : decode cX6_wantNumber 18 = .ok (.if_icmp .ne 16, 3) := by decide +kernel
theorem dX6_wantNumber_21 : decode cX6_wantNumber 21 = .ok (.iload_n 3, 1) := by decide +kernel
theorem dX6_wantNumber_22 : decode cX6_wantNumber 22 = .ok (.iload_n 1, 1) := by decide +kernel
theorem dX6_wantNumber_23 : decode cX6_wantNumber 23 = .ok (.iload_n 2, 1) := by decide +kernel
theorem dX6_wantNumber_24 : decode cX6_wantNumber 24 = .ok (.invokestatic 48, 3) := by decide +kernel
theorem dX6_wantNumber_27 : decode cX6_wantNumber 27 = .ok (.ifCond .eq 7, 3) := by decide +kernel
theorem dX6_wantNumber_30 : decode cX6_wantNumber 30 = .ok (.iconst 1, 1) := by decide +kernel
theorem dX6_wantNumber_31 : decode cX6_wantNumber 31 = .ok (.goto 4, 3) := by decide +kernel
theorem dX6_wantNumber_34 : decode cX6_wantNumber 34 = .ok (.iconst 0, 1) := by decide +kernel
theorem dX6_wantNumber_35 : decode cX6_wantNumber 35 = .ok (.putfield 211, 3) := by decide +kernel
theorem dX6_wantNumber_38 : decode cX6_wantNumber 38 = .ok (.aload_n 0, 1) := by decide +kernel
theorem dX6_wantNumber_39 : decode cX6_wantNumber 39 = .ok (.getfield 211, 3) := by decide +kernel
theorem dX6_wantNumber_42 : decode cX6_wantNumber 42 = .ok (.ifCond .eq 7, 3) := by decide +kernel
theorem dX6_wantNumber_45 : decode cX6_wantNumber 45 = .ok (.aload_n 0, 1) := by decide +kernel
theorem dX6_wantNumber_46 : decode cX6_wantNumber 46 = .ok (.invokevirtual 215, 3) := by decide +kernel
theorem dX6_wantNumber_49 : decode cX6_wantNumber 49 = .ok (.iload_n 3, 1) := by decide +kernel
theorem dX6_wantNumber_50 : decode cX6_wantNumber 50 = .ok (.ireturn, 1) := by decide +kernel
set_option maxRecDepth 20000 in
theorem ggX6_mayWant_X6_isWord : GoodIn wsX6_mayWant wsX6_isWord := goodIn_r _ [6, 7, 8, 38, 39, 40, 41, 42, 43, 44, 45, 46, 47, 48, 49, 50, 51, 52, 53, 54, 55, 56, 57] (by decide +kernel) (by decide +kernel)
set_option maxRecDepth 20000 in
theorem gX6_mayWant_X6_isWord : GoodIn wsX6_mayWant (wsV RX6 197 RX6 yX6_isWord wsX6_isWord) := goodIn_app (goodIn_of _ (by decide +kernel)) ggX6_mayWant_X6_isWord
set_option maxRecDepth 20000 in
theorem ggX6_mayWant_X6_advance : GoodIn wsX6_mayWant wsX6_advance := goodIn_r _ [12, 13, 14, 7, 8, 15, 16, 17, 18, 19, 20, 21, 5, 22, 23, 24, 25, 26, 27, 28, 29, 30, 31, 32, 33, 38, 39, 40, 41, 42, 43, 44, 45, 46, 47, 48, 49, 50, 51, 52, 53, 54, 55, 56, 57] (by decide +kernel) (by decide +kernel)
set_option maxRecDepth 20000 in
theorem gX6_mayWant_X6_advance : GoodIn wsX6_mayWant (wsV RX6 215 RX6 yX6_advance wsX6_advance) := goodIn_app (goodIn_of _ (by decide +kernel)) ggX6_mayWant_X6_advance
set_option maxRecDepth 20000 in
theorem ggX6_mayWant_X6_wantNumber : GoodIn wsX6_mayWant wsX6_wantNumber := goodIn_r _ [37, 15, 1, 7, 28, 29, 5, 30, 9, 10, 11, 12, 13, 14, 8, 16, 17, 18, 19, 20, 21, 22, 23, 24, 25, 26, 27, 31, 32, 33, 38, 39, 40, 41, 42, 43, 44, 45, 46, 47, 48, 49, 50, 51, 52, 53, 54, 55, 56, 57] (by decide +kernel) (by decide +kernel)
set_option maxRecDepth 20000 in
theorem gX6_mayWant_X6_wantNumber : GoodIn wsX6_mayWant (wsV RX6 218 RX6 yX6_wantNumber wsX6_wantNumber) := goodIn_app (goodIn_of _ (by decide +kernel)) ggX6_mayWant_X6_wantNumber
theorem dX6_mayWant_0 : decode cX6_mayWant 0 = .ok (.aload_n 0, 1) := by decide +kernel
theorem dX6_mayWant_1 : decode cX6_mayWant 1 = .ok (.getfield 211, 3) := by decide +kernel
theorem dX6_mayWant_4 : decode cX6_mayWant 4 = .ok (.ifCond .eq 11, 3) := by decide +kernel
theorem dX6_mayWant_7 : decode cX6_mayWant 7 = .ok (.aload_n 0, 1) := by decide +kernel
theorem dX6_mayWant_8 : decode cX6_mayWant 8 = .ok (.lload_n 1, 1) := by decide +kernel
theorem dX6_mayWant_9 : decode cX6_mayWant 9 = .ok (.invokevirtual 197, 3) := by decide +kernel
theorem dX6_mayWant_12 : decode cX6_mayWant 12 = .ok (.ifCond .ne 6, 3) := by decide +kernel
theorem dX6_mayWant_15 : decode cX6_mayWant 15 = .ok (.iload 5, 2) := by decide +kernel
theorem dX6_mayWant_17 : decode cX6_mayWant 17 = .ok (.ireturn, 1) := by decide +kernel
theorem dX6_mayWant_18 : decode cX6_mayWant 18 = .ok (.aload_n 0, 1) := by decide +kernel
theorem dX6_mayWant_19 : decode cX6_mayWant 19 = .ok (.invokevirtual 215, 3) := by decide +kernel
theorem dX6_mayWant_22 : decode cX6_mayWant 22 = .ok (.aload_n 0, 1) := by decide +kernel
theorem dX6_mayWant_23 : decode cX6_mayWant 23 = .ok (.iload_n 3, 1) := by decide +kernel
theorem dX6_mayWant_24 : decode cX6_mayWant 24 = .ok (.iload 4, 2) := by decide +kernel
theorem dX6_mayWant_26 : decode cX6_mayWant 26 = .ok (.invokevirtual 218, 3) := by decide +kernel
theorem dX6_mayWant_29 : decode cX6_mayWant 29 = .ok (.ireturn, 1) := by decide +kernel
set_option maxRecDepth 20000 in
theorem ggX6_may_X6_isWord : GoodIn wsX6_may wsX6_isWord := goodIn_r _ [6, 7, 8, 34, 35, 36, 37, 38, 39, 40, 41, 42, 43, 44, 45, 46, 47, 48, 49, 50, 51, 52, 53] (by decide +kernel) (by decide +kernel)
set_option maxRecDepth 20000 in
theorem gX6_may_X6_isWord : GoodIn wsX6_may (wsV RX6 197 RX6 yX6_isWord wsX6_isWord) := goodIn_app (goodIn_of _ (by decide +kernel)) ggX6_may_X6_isWord
set_option maxRecDepth 20000 in
theorem ggX6_may_X6_advance : GoodIn wsX6_may wsX6_advance := goodIn_r _ [12, 13, 14, 7, 8, 15, 16, 17, 18, 19, 20, 21, 5, 22, 23, 24, 25, 26, 27, 28, 29, 30, 31, 32, 33, 34, 35, 36, 37, 38, 39, 40, 41, 42, 43, 44, 45, 46, 47, 48, 49, 50, 51, 52, 53] (by decide +kernel) (by decide +kernel)
set_option maxRecDepth 20000 in
theorem gX6_may_X6_advance : GoodIn wsX6_may (wsV RX6 215 RX6 yX6_advance wsX6_advance) := goodIn_app (goodIn_of _ (by decide +kernel)) ggX6_may_X6_advance
theorem dX6_may_0 : decode cX6_may 0 = .ok (.aload_n 0, 1) := by decide +kernel
theorem dX6_may_1 : decode cX6_may 1 = .ok (.getfield 211, 3) := by decide +kernel
theorem dX6_may_4 : decode cX6_may 4 = .ok (.ifCond .eq 15, 3) := by decide +kernel
theorem dX6_may_7 : decode cX6_may 7 = .ok (.aload_n 0, 1) := by decide +kernel
theorem dX6_may_8 : decode cX6_may 8 = .ok (.lload_n 1, 1) := by decide +kernel
theorem dX6_may_9 : decode cX6_may 9 = .ok (.invokevirtual 197, 3) := by decide +kernel
theorem dX6_may_12 : decode cX6_may 12 = .ok (.ifCond .eq 7, 3) := by decide +kernel
theorem dX6_may_15 : decode cX6_may 15 = .ok (.iconst 1, 1) := by decide +kernel
theorem dX6_may_16 : decode cX6_may 16 = .ok (.goto 4, 3) := by decide +kernel
theorem dX6_may_19 : decode cX6_may 19 = .ok (.iconst 0, 1) := by decide +kernel
theorem dX6_may_20 : decode cX6_may 20 = .ok (.istore_n 3, 1) := by decide +kernel
theorem dX6_may_21 : decode cX6_may 21 = .ok (.iload_n 3, 1) := by decide +kernel
theorem dX6_may_22 : decode cX6_may 22 = .ok (.ifCond .eq 7, 3) := by decide +kernel
theorem dX6_may_25 : decode cX6_may 25 = .ok (.aload_n 0, 1) := by decide +kernel
theorem dX6_may_26 : decode cX6_may 26 = .ok (.invokevirtual 215, 3) := by decide +kernel
theorem dX6_may_29 : decode cX6_may 29 = .ok (.iload_n 3, 1) := by decide +kernel
theorem dX6_may_30 : decode cX6_may 30 = .ok (.ireturn, 1) := by decide +kernel
set_option maxRecDepth 20000 in
theorem ggX6_wantOne_X6_advance : GoodIn wsX6_wantOne wsX6_advance := goodIn_r _ [9, 10, 11, 3, 12, 4, 13, 14, 15, 16, 17, 18, 8, 19, 20, 21, 22, 23, 24, 25, 26, 27, 28, 29, 30, 54, 55, 56, 57, 58, 59, 60, 61, 62, 63, 64, 65, 66, 67, 68, 69, 70, 71, 72, 73] (by decide +kernel) (by decide +kernel)
set_option maxRecDepth 20000 in
theorem gX6_wantOne_X6_advance : GoodIn wsX6_wantOne (wsV RX6 215 RX6 yX6_advance wsX6_advance) := goodIn_app (goodIn_of _ (by decide +kernel)) ggX6_wantOne_X6_advance
set_option maxRecDepth 20000 in
theorem ggX6_wantOne_X6_isPlace : GoodIn wsX6_wantOne wsX6_isPlace := goodIn_r _ [33, 25, 26, 8, 27] (by decide +kernel) (by decide +kernel)
set_option maxRecDepth 20000 in
theorem gX6_wantOne_X6_isPlace : GoodIn wsX6_wantOne (va_wsS RX6 79 yX6_isPlace wsX6_isPlace) := goodIn_app (goodIn_of _ (by decide +kernel)) ggX6_wantOne_X6_isPlace
set_option maxRecDepth 20000 in
theorem ggX6_wantOne_X6_whoAt : GoodIn wsX6_wantOne wsX6_whoAt := goodIn_r _ [37, 1, 38, 39, 40, 8, 41, 54, 55, 56, 57, 58, 59, 60, 61, 62, 63, 64, 65, 66, 67, 68, 69, 70, 71, 72, 73] (by decide +kernel) (by decide +kernel)
set_option maxRecDepth 20000 in
theorem gX6_wantOne_X6_whoAt : GoodIn wsX6_wantOne (wsV RX6 56 RX6 yX6_whoAt wsX6_whoAt) := goodIn_app (goodIn_of _ (by decide +kernel)) ggX6_wantOne_X6_whoAt
set_option maxRecDepth 20000 in
theorem ggX6_wantOne_X6_wantNumber : GoodIn wsX6_wantOne wsX6_wantNumber := goodIn_r _ [45, 4, 2, 3, 25, 26, 8, 27, 5, 6, 7, 9, 10, 11, 12, 13, 14, 15, 16, 17, 18, 19, 20, 21, 22, 23, 24, 28, 29, 30, 54, 55, 56, 57, 58, 59, 60, 61, 62, 63, 64, 65, 66, 67, 68, 69, 70, 71, 72, 73] (by decide +kernel) (by decide +kernel)
set_option maxRecDepth 20000 in
theorem gX6_wantOne_X6_wantNumber : GoodIn wsX6_wantOne (wsV RX6 218 RX6 yX6_wantNumber wsX6_wantNumber) := goodIn_app (goodIn_of _ (by decide +kernel)) ggX6_wantOne_X6_wantNumber
set_option maxRecDepth 20000 in
theorem ggX6_wantOne_X6_adds : GoodIn wsX6_wantOne wsX6_adds := goodIn_r _ [49, 1, 50, 51, 52, 8, 53, 54, 55, 56, 57, 58, 59, 60, 61, 62, 63, 64, 65, 66, 67, 68, 69, 70, 71, 72, 73] (by decide +kernel) (by decide +kernel)
set_option maxRecDepth 20000 in
theorem gX6_wantOne_X6_adds : GoodIn wsX6_wantOne (wsV RX6 110 RX6 yX6_adds wsX6_adds) := goodIn_app (goodIn_of _ (by decide +kernel)) ggX6_wantOne_X6_adds
theorem dX6_wantOne_0 : decode cX6_wantOne 0 = .ok (.aload_n 0, 1) := by decide +kernel
theorem dX6_wantOne_1 : decode cX6_wantOne 1 = .ok (.aload_n 0, 1) := by decide +kernel
theorem dX6_wantOne_2 : decode cX6_wantOne 2 = .ok (.getfield 7, 3) := by decide +kernel
theorem dX6_wantOne_5 : decode cX6_wantOne 5 = .ok (.iconst 1, 1) := by decide +kernel
theorem dX6_wantOne_6 : decode cX6_wantOne 6 = .ok (.iaload, 1) := by decide +kernel
theorem dX6_wantOne_7 : decode cX6_wantOne 7 = .ok (.bipush 8, 2) := by decide +kernel
theorem dX6_wantOne_9 : decode cX6_wantOne 9 = .ok (.if_icmp .ge 7, 3) := by decide +kernel
theorem dX6_wantOne_12 : decode cX6_wantOne 12 = .ok (.iconst 1, 1) := by decide +kernel
theorem dX6_wantOne_13 : decode cX6_wantOne 13 = .ok (.goto 4, 3) := by decide +kernel
theorem dX6_wantOne_16 : decode cX6_wantOne 16 = .ok (.iconst 0, 1) := by decide +kernel
theorem dX6_wantOne_17 : decode cX6_wantOne 17 = .ok (.putfield 211, 3) := by decide +kernel
theorem dX6_wantOne_20 : decode cX6_wantOne 20 = .ok (.aload_n 0, 1) := by decide +kernel
theorem dX6_wantOne_21 : decode cX6_wantOne 21 = .ok (.getfield 211, 3) := by decide +kernel
theorem dX6_wantOne_24 : decode cX6_wantOne 24 = .ok (.ifCond .ne 4, 3) := by decide +kernel
theorem dX6_wantOne_27 : decode cX6_wantOne 27 = .ok (.return_, 1) := by decide +kernel
theorem dX6_wantOne_28 : decode cX6_wantOne 28 = .ok (.aload_n 0, 1) := by decide +kernel
theorem dX6_wantOne_29 : decode cX6_wantOne 29 = .ok (.invokevirtual 215, 3) := by decide +kernel
theorem dX6_wantOne_32 : decode cX6_wantOne 32 = .ok (.aload_n 0, 1) := by decide +kernel
theorem dX6_wantOne_33 : decode cX6_wantOne 33 = .ok (.aload_n 0, 1) := by decide +kernel
theorem dX6_wantOne_34 : decode cX6_wantOne 34 = .ok (.getfield 179, 3) := by decide +kernel
theorem dX6_wantOne_37 : decode cX6_wantOne 37 = .ok (.iconst 2, 1) := by decide +kernel
theorem dX6_wantOne_38 : decode cX6_wantOne 38 = .ok (.if_icmp .ne 28, 3) := by decide +kernel
theorem dX6_wantOne_41 : decode cX6_wantOne 41 = .ok (.aload_n 0, 1) := by decide +kernel
theorem dX6_wantOne_42 : decode cX6_wantOne 42 = .ok (.getfield 186, 3) := by decide +kernel
theorem dX6_wantOne_45 : decode cX6_wantOne 45 = .ok (.invokestatic 79, 3) := by decide +kernel
theorem dX6_wantOne_48 : decode cX6_wantOne 48 = .ok (.ifCond .eq 14, 3) := by decide +kernel
theorem dX6_wantOne_51 : decode cX6_wantOne 51 = .ok (.aload_n 0, 1) := by decide +kernel
theorem dX6_wantOne_52 : decode cX6_wantOne 52 = .ok (.aload_n 0, 1) := by decide +kernel
theorem dX6_wantOne_53 : decode cX6_wantOne 53 = .ok (.getfield 186, 3) := by decide +kernel
theorem dX6_wantOne_56 : decode cX6_wantOne 56 = .ok (.invokevirtual 56, 3) := by decide +kernel
theorem dX6_wantOne_59 : decode cX6_wantOne 59 = .ok (.ifCond .ge 7, 3) := by decide +kernel
theorem dX6_wantOne_62 : decode cX6_wantOne 62 = .ok (.iconst 1, 1) := by decide +kernel
theorem dX6_wantOne_63 : decode cX6_wantOne 63 = .ok (.goto 4, 3) := by decide +kernel
theorem dX6_wantOne_66 : decode cX6_wantOne 66 = .ok (.iconst 0, 1) := by decide +kernel
theorem dX6_wantOne_67 : decode cX6_wantOne 67 = .ok (.putfield 211, 3) := by decide +kernel
theorem dX6_wantOne_70 : decode cX6_wantOne 70 = .ok (.aload_n 0, 1) := by decide +kernel
theorem dX6_wantOne_71 : decode cX6_wantOne 71 = .ok (.iconst 0, 1) := by decide +kernel
theorem dX6_wantOne_72 : decode cX6_wantOne 72 = .ok (.bipush 9, 2) := by decide +kernel
theorem dX6_wantOne_74 : decode cX6_wantOne 74 = .ok (.invokevirtual 218, 3) := by decide +kernel
theorem dX6_wantOne_77 : decode cX6_wantOne 77 = .ok (.istore_n 2, 1) := by decide +kernel
theorem dX6_wantOne_78 : decode cX6_wantOne 78 = .ok (.aload_n 0, 1) := by decide +kernel
theorem dX6_wantOne_79 : decode cX6_wantOne 79 = .ok (.getfield 211, 3) := by decide +kernel
theorem dX6_wantOne_82 : decode cX6_wantOne 82 = .ok (.ifCond .eq 9, 3) := by decide +kernel
theorem dX6_wantOne_85 : decode cX6_wantOne 85 = .ok (.aload_n 0, 1) := by decide +kernel
theorem dX6_wantOne_86 : decode cX6_wantOne 86 = .ok (.iload_n 1, 1) := by decide +kernel
theorem dX6_wantOne_87 : decode cX6_wantOne 87 = .ok (.iload_n 2, 1) := by decide +kernel
theorem dX6_wantOne_88 : decode cX6_wantOne 88 = .ok (.invokevirtual 110, 3) := by decide +kernel
theorem dX6_wantOne_91 : decode cX6_wantOne 91 = .ok (.return_, 1) := by decide +kernel
set_option maxRecDepth 20000 in
theorem ggX6_wantLaying_X6_wantNumber : GoodIn wsX6_wantLaying wsX6_wantNumber := goodIn_r _ [10, 11, 4, 12, 13, 14, 9, 15, 16, 17, 18, 19, 20, 21, 22, 23, 24, 25, 26, 27, 28, 29, 30, 31, 32, 33, 34, 35, 36, 37, 50, 51, 52, 53, 54, 55, 56, 57, 58, 59, 60, 61, 62, 63, 64, 65, 66, 67, 68, 69] (by decide +kernel) (by decide +kernel)
set_option maxRecDepth 20000 in
theorem gX6_wantLaying_X6_wantNumber : GoodIn wsX6_wantLaying (wsV RX6 218 RX6 yX6_wantNumber wsX6_wantNumber) := goodIn_app (goodIn_of _ (by decide +kernel)) ggX6_wantLaying_X6_wantNumber
set_option maxRecDepth 20000 in
theorem ggX6_wantLaying_X6_may : GoodIn wsX6_wantLaying wsX6_may := goodIn_r _ [41, 4, 42, 43, 44, 9, 45, 12, 22, 16, 17, 18, 19, 20, 21, 11, 23, 24, 25, 26, 27, 28, 29, 30, 31, 32, 33, 34, 13, 14, 15, 35, 36, 37, 50, 51, 52, 53, 54, 55, 56, 57, 58, 59, 60, 61, 62, 63, 64, 65, 66, 67, 68, 69] (by decide +kernel) (by decide +kernel)
set_option maxRecDepth 20000 in
theorem gX6_wantLaying_X6_may : GoodIn wsX6_wantLaying (wsV RX6 223 RX6 yX6_may wsX6_may) := goodIn_app (goodIn_of _ (by decide +kernel)) ggX6_wantLaying_X6_may
set_option maxRecDepth 20000 in
theorem ggX6_wantLaying_X6_mayWant : GoodIn wsX6_wantLaying wsX6_mayWant := goodIn_r _ [49, 4, 42, 43, 44, 9, 45, 12, 22, 16, 17, 18, 19, 20, 21, 11, 23, 24, 25, 26, 27, 28, 29, 30, 31, 32, 33, 34, 13, 14, 15, 35, 36, 37, 6, 7, 8, 10, 50, 51, 52, 53, 54, 55, 56, 57, 58, 59, 60, 61, 62, 63, 64, 65, 66, 67, 68, 69] (by decide +kernel) (by decide +kernel)
set_option maxRecDepth 20000 in
theorem gX6_wantLaying_X6_mayWant : GoodIn wsX6_wantLaying (wsV RX6 230 RX6 yX6_mayWant wsX6_mayWant) := goodIn_app (goodIn_of _ (by decide +kernel)) ggX6_wantLaying_X6_mayWant
theorem dX6_wantLaying_0 : decode cX6_wantLaying 0 = .ok (.aload_n 0, 1) := by decide +kernel
theorem dX6_wantLaying_1 : decode cX6_wantLaying 1 = .ok (.iconst 0, 1) := by decide +kernel
theorem dX6_wantLaying_2 : decode cX6_wantLaying 2 = .ok (.bipush 9, 2) := by decide +kernel
theorem dX6_wantLaying_4 : decode cX6_wantLaying 4 = .ok (.invokevirtual 218, 3) := by decide +kernel
theorem dX6_wantLaying_7 : decode cX6_wantLaying 7 = .ok (.istore_n 1, 1) := by decide +kernel
theorem dX6_wantLaying_8 : decode cX6_wantLaying 8 = .ok (.aload_n 0, 1) := by decide +kernel
theorem dX6_wantLaying_9 : decode cX6_wantLaying 9 = .ok (.ldc2_w 221, 3) := by decide +kernel
theorem dX6_wantLaying_12 : decode cX6_wantLaying 12 = .ok (.invokevirtual 223, 3) := by decide +kernel
theorem dX6_wantLaying_15 : decode cX6_wantLaying 15 = .ok (.ifCond .eq 7, 3) := by decide +kernel
theorem dX6_wantLaying_18 : decode cX6_wantLaying 18 = .ok (.iconst 1, 1) := by decide +kernel
theorem dX6_wantLaying_19 : decode cX6_wantLaying 19 = .ok (.goto 4, 3) := by decide +kernel
theorem dX6_wantLaying_22 : decode cX6_wantLaying 22 = .ok (.iconst 0, 1) := by decide +kernel
theorem dX6_wantLaying_23 : decode cX6_wantLaying 23 = .ok (.istore_n 2, 1) := by decide +kernel
theorem dX6_wantLaying_24 : decode cX6_wantLaying 24 = .ok (.aload_n 0, 1) := by decide +kernel
theorem dX6_wantLaying_25 : decode cX6_wantLaying 25 = .ok (.ldc2_w 226, 3) := by decide +kernel
theorem dX6_wantLaying_28 : decode cX6_wantLaying 28 = .ok (.invokevirtual 223, 3) := by decide +kernel
theorem dX6_wantLaying_31 : decode cX6_wantLaying 31 = .ok (.ifCond .eq 7, 3) := by decide +kernel
theorem dX6_wantLaying_34 : decode cX6_wantLaying 34 = .ok (.iconst 1, 1) := by decide +kernel
theorem dX6_wantLaying_35 : decode cX6_wantLaying 35 = .ok (.goto 4, 3) := by decide +kernel
theorem dX6_wantLaying_38 : decode cX6_wantLaying 38 = .ok (.iconst 0, 1) := by decide +kernel
theorem dX6_wantLaying_39 : decode cX6_wantLaying 39 = .ok (.istore_n 3, 1) := by decide +kernel
theorem dX6_wantLaying_40 : decode cX6_wantLaying 40 = .ok (.aload_n 0, 1) := by decide +kernel
theorem dX6_wantLaying_41 : decode cX6_wantLaying 41 = .ok (.ldc2_w 228, 3) := by decide +kernel
theorem dX6_wantLaying_44 : decode cX6_wantLaying 44 = .ok (.iconst 0, 1) := by decide +kernel
theorem dX6_wantLaying_45 : decode cX6_wantLaying 45 = .ok (.bipush 9, 2) := by decide +kernel
theorem dX6_wantLaying_47 : decode cX6_wantLaying 47 = .ok (.iconst 0, 1) := by decide +kernel
theorem dX6_wantLaying_48 : decode cX6_wantLaying 48 = .ok (.invokevirtual 230, 3) := by decide +kernel
theorem dX6_wantLaying_51 : decode cX6_wantLaying 51 = .ok (.istore 4, 2) := by decide +kernel
theorem dX6_wantLaying_53 : decode cX6_wantLaying 53 = .ok (.aload_n 0, 1) := by decide +kernel
theorem dX6_wantLaying_54 : decode cX6_wantLaying 54 = .ok (.getfield 211, 3) := by decide +kernel
theorem dX6_wantLaying_57 : decode cX6_wantLaying 57 = .ok (.ifCond .eq 41, 3) := by decide +kernel
theorem dX6_wantLaying_60 : decode cX6_wantLaying 60 = .ok (.aload_n 0, 1) := by decide +kernel
theorem dX6_wantLaying_61 : decode cX6_wantLaying 61 = .ok (.getfield 7, 3) := by decide +kernel
theorem dX6_wantLaying_64 : decode cX6_wantLaying 64 = .ok (.iconst 2, 1) := by decide +kernel
theorem dX6_wantLaying_65 : decode cX6_wantLaying 65 = .ok (.iconst 3, 1) := by decide +kernel
theorem dX6_wantLaying_66 : decode cX6_wantLaying 66 = .ok (.iload_n 1, 1) := by decide +kernel
theorem dX6_wantLaying_67 : decode cX6_wantLaying 67 = .ok (.imul, 1) := by decide +kernel
theorem dX6_wantLaying_68 : decode cX6_wantLaying 68 = .ok (.iadd, 1) := by decide +kernel
theorem dX6_wantLaying_69 : decode cX6_wantLaying 69 = .ok (.iload_n 2, 1) := by decide +kernel
theorem dX6_wantLaying_70 : decode cX6_wantLaying 70 = .ok (.iastore, 1) := by decide +kernel
theorem dX6_wantLaying_71 : decode cX6_wantLaying 71 = .ok (.aload_n 0, 1) := by decide +kernel
theorem dX6_wantLaying_72 : decode cX6_wantLaying 72 = .ok (.getfield 7, 3) := by decide +kernel
theorem dX6_wantLaying_75 : decode cX6_wantLaying 75 = .ok (.iconst 2, 1) := by decide +kernel
theorem dX6_wantLaying_76 : decode cX6_wantLaying 76 = .ok (.iconst 3, 1) := by decide +kernel
theorem dX6_wantLaying_77 : decode cX6_wantLaying 77 = .ok (.iload_n 1, 1) := by decide +kernel
theorem dX6_wantLaying_78 : decode cX6_wantLaying 78 = .ok (.imul, 1) := by decide +kernel
theorem dX6_wantLaying_79 : decode cX6_wantLaying 79 = .ok (.iadd, 1) := by decide +kernel
theorem dX6_wantLaying_80 : decode cX6_wantLaying 80 = .ok (.iconst 1, 1) := by decide +kernel
theorem dX6_wantLaying_81 : decode cX6_wantLaying 81 = .ok (.iadd, 1) := by decide +kernel
theorem dX6_wantLaying_82 : decode cX6_wantLaying 82 = .ok (.iload_n 3, 1) := by decide +kernel
theorem dX6_wantLaying_83 : decode cX6_wantLaying 83 = .ok (.iastore, 1) := by decide +kernel
theorem dX6_wantLaying_84 : decode cX6_wantLaying 84 = .ok (.aload_n 0, 1) := by decide +kernel
theorem dX6_wantLaying_85 : decode cX6_wantLaying 85 = .ok (.getfield 7, 3) := by decide +kernel
theorem dX6_wantLaying_88 : decode cX6_wantLaying 88 = .ok (.iconst 2, 1) := by decide +kernel
theorem dX6_wantLaying_89 : decode cX6_wantLaying 89 = .ok (.iconst 3, 1) := by decide +kernel
theorem dX6_wantLaying_90 : decode cX6_wantLaying 90 = .ok (.iload_n 1, 1) := by decide +kernel
theorem dX6_wantLaying_91 : decode cX6_wantLaying 91 = .ok (.imul, 1) := by decide +kernel
theorem dX6_wantLaying_92 : decode cX6_wantLaying 92 = .ok (.iadd, 1) := by decide +kernel
theorem dX6_wantLaying_93 : decode cX6_wantLaying 93 = .ok (.iconst 2, 1) := by decide +kernel
theorem dX6_wantLaying_94 : decode cX6_wantLaying 94 = .ok (.iadd, 1) := by decide +kernel
theorem dX6_wantLaying_95 : decode cX6_wantLaying 95 = .ok (.iload 4, 2) := by decide +kernel
theorem dX6_wantLaying_97 : decode cX6_wantLaying 97 = .ok (.iastore, 1) := by decide +kernel
theorem dX6_wantLaying_98 : decode cX6_wantLaying 98 = .ok (.return_, 1) := by decide +kernel
set_option maxRecDepth 20000 in
theorem ggX6_wantChange_X6_wantNumber : GoodIn wsX6_wantChange wsX6_wantNumber := goodIn_r _ [9, 4, 2, 3, 10, 11, 8, 12, 13, 14, 15, 16, 17, 18, 19, 20, 21, 22, 23, 24, 25, 26, 27, 28, 29, 30, 31, 32, 33, 34, 47, 48, 49, 50, 51, 52, 53, 54, 55, 56, 57, 58, 59, 60, 61, 62, 63, 64, 65, 66] (by decide +kernel) (by decide +kernel)
set_option maxRecDepth 20000 in
theorem gX6_wantChange_X6_wantNumber : GoodIn wsX6_wantChange (wsV RX6 218 RX6 yX6_wantNumber wsX6_wantNumber) := goodIn_app (goodIn_of _ (by decide +kernel)) ggX6_wantChange_X6_wantNumber
set_option maxRecDepth 20000 in
theorem ggX6_wantChange_X6_swaps : GoodIn wsX6_wantChange wsX6_swaps := goodIn_r _ [38, 39, 40, 41, 8, 42, 1, 43, 44, 45, 46, 47, 48, 49, 50, 51, 52, 53, 54, 55, 56, 57, 58, 59, 60, 61, 62, 63, 64, 65, 66] (by decide +kernel) (by decide +kernel)
set_option maxRecDepth 20000 in
theorem gX6_wantChange_X6_swaps : GoodIn wsX6_wantChange (wsV RX6 130 RX6 yX6_swaps wsX6_swaps) := goodIn_app (goodIn_of _ (by decide +kernel)) ggX6_wantChange_X6_swaps
theorem dX6_wantChange_0 : decode cX6_wantChange 0 = .ok (.aload_n 0, 1) := by decide +kernel
theorem dX6_wantChange_1 : decode cX6_wantChange 1 = .ok (.iconst 0, 1) := by decide +kernel
theorem dX6_wantChange_2 : decode cX6_wantChange 2 = .ok (.aload_n 0, 1) := by decide +kernel
theorem dX6_wantChange_3 : decode cX6_wantChange 3 = .ok (.getfield 7, 3) := by decide +kernel
theorem dX6_wantChange_6 : decode cX6_wantChange 6 = .ok (.iconst 1, 1) := by decide +kernel
theorem dX6_wantChange_7 : decode cX6_wantChange 7 = .ok (.iaload, 1) := by decide +kernel
theorem dX6_wantChange_8 : decode cX6_wantChange 8 = .ok (.iconst 1, 1) := by decide +kernel
theorem dX6_wantChange_9 : decode cX6_wantChange 9 = .ok (.isub, 1) := by decide +kernel
theorem dX6_wantChange_10 : decode cX6_wantChange 10 = .ok (.invokevirtual 218, 3) := by decide +kernel
theorem dX6_wantChange_13 : decode cX6_wantChange 13 = .ok (.istore_n 1, 1) := by decide +kernel
theorem dX6_wantChange_14 : decode cX6_wantChange 14 = .ok (.aload_n 0, 1) := by decide +kernel
theorem dX6_wantChange_15 : decode cX6_wantChange 15 = .ok (.aload_n 0, 1) := by decide +kernel
theorem dX6_wantChange_16 : decode cX6_wantChange 16 = .ok (.getfield 211, 3) := by decide +kernel
theorem dX6_wantChange_19 : decode cX6_wantChange 19 = .ok (.ifCond .eq 23, 3) := by decide +kernel
theorem dX6_wantChange_22 : decode cX6_wantChange 22 = .ok (.aload_n 0, 1) := by decide +kernel
theorem dX6_wantChange_23 : decode cX6_wantChange 23 = .ok (.getfield 179, 3) := by decide +kernel
theorem dX6_wantChange_26 : decode cX6_wantChange 26 = .ok (.iconst 2, 1) := by decide +kernel
theorem dX6_wantChange_27 : decode cX6_wantChange 27 = .ok (.if_icmp .ne 11, 3) := by decide +kernel
theorem dX6_wantChange_30 : decode cX6_wantChange 30 = .ok (.aload_n 0, 1) := by decide +kernel
theorem dX6_wantChange_31 : decode cX6_wantChange 31 = .ok (.getfield 186, 3) := by decide +kernel
theorem dX6_wantChange_34 : decode cX6_wantChange 34 = .ok (.iload_n 1, 1) := by decide +kernel
theorem dX6_wantChange_35 : decode cX6_wantChange 35 = .ok (.if_icmp .eq 7, 3) := by decide +kernel
theorem dX6_wantChange_38 : decode cX6_wantChange 38 = .ok (.iconst 1, 1) := by decide +kernel
theorem dX6_wantChange_39 : decode cX6_wantChange 39 = .ok (.goto 4, 3) := by decide +kernel
theorem dX6_wantChange_42 : decode cX6_wantChange 42 = .ok (.iconst 0, 1) := by decide +kernel
theorem dX6_wantChange_43 : decode cX6_wantChange 43 = .ok (.putfield 211, 3) := by decide +kernel
theorem dX6_wantChange_46 : decode cX6_wantChange 46 = .ok (.aload_n 0, 1) := by decide +kernel
theorem dX6_wantChange_47 : decode cX6_wantChange 47 = .ok (.iconst 0, 1) := by decide +kernel
theorem dX6_wantChange_48 : decode cX6_wantChange 48 = .ok (.aload_n 0, 1) := by decide +kernel
theorem dX6_wantChange_49 : decode cX6_wantChange 49 = .ok (.getfield 7, 3) := by decide +kernel
theorem dX6_wantChange_52 : decode cX6_wantChange 52 = .ok (.iconst 1, 1) := by decide +kernel
theorem dX6_wantChange_53 : decode cX6_wantChange 53 = .ok (.iaload, 1) := by decide +kernel
theorem dX6_wantChange_54 : decode cX6_wantChange 54 = .ok (.iconst 1, 1) := by decide +kernel
theorem dX6_wantChange_55 : decode cX6_wantChange 55 = .ok (.isub, 1) := by decide +kernel
theorem dX6_wantChange_56 : decode cX6_wantChange 56 = .ok (.invokevirtual 218, 3) := by decide +kernel
theorem dX6_wantChange_59 : decode cX6_wantChange 59 = .ok (.istore_n 2, 1) := by decide +kernel
theorem dX6_wantChange_60 : decode cX6_wantChange 60 = .ok (.aload_n 0, 1) := by decide +kernel
theorem dX6_wantChange_61 : decode cX6_wantChange 61 = .ok (.getfield 211, 3) := by decide +kernel
theorem dX6_wantChange_64 : decode cX6_wantChange 64 = .ok (.ifCond .eq 9, 3) := by decide +kernel
theorem dX6_wantChange_67 : decode cX6_wantChange 67 = .ok (.aload_n 0, 1) := by decide +kernel
theorem dX6_wantChange_68 : decode cX6_wantChange 68 = .ok (.iload_n 1, 1) := by decide +kernel
theorem dX6_wantChange_69 : decode cX6_wantChange 69 = .ok (.iload_n 2, 1) := by decide +kernel
theorem dX6_wantChange_70 : decode cX6_wantChange 70 = .ok (.invokevirtual 130, 3) := by decide +kernel
theorem dX6_wantChange_73 : decode cX6_wantChange 73 = .ok (.return_, 1) := by decide +kernel
set_option maxRecDepth 20000 in
theorem ggX6_wantItem_X6_kindHere : GoodIn wsX6_wantItem wsX6_kindHere := goodIn_r _ [8, 9, 10, 11, 12, 13, 14, 15, 16, 17, 7, 18, 19, 20, 97, 98, 99, 100, 101, 102, 103, 104, 105, 106, 107, 108, 109, 110, 111, 112, 113, 114, 115, 116] (by decide +kernel) (by decide +kernel)
set_option maxRecDepth 20000 in
theorem gX6_wantItem_X6_kindHere : GoodIn wsX6_wantItem (wsV RX6 234 RX6 yX6_kindHere wsX6_kindHere) := goodIn_app (goodIn_of _ (by decide +kernel)) ggX6_wantItem_X6_kindHere
set_option maxRecDepth 20000 in
theorem ggX6_wantItem_X6_wantOne : GoodIn wsX6_wantItem wsX6_wantOne := goodIn_r _ [24, 25, 3, 19, 26, 27, 28, 29, 7, 30, 31, 32, 20, 33, 34, 35, 36, 37, 38, 39, 40, 41, 42, 43, 44, 45, 46, 47, 48, 49, 50, 51, 52, 53, 54, 55, 56, 57, 58, 59, 60, 61, 62, 63, 64, 65, 66, 67, 68, 69, 70, 71, 72, 73, 97, 98, 99, 100, 101, 102, 103, 104, 105, 106, 107, 108, 109, 110, 111, 112, 113, 114, 115, 116] (by decide +kernel) (by decide +kernel)
set_option maxRecDepth 20000 in
theorem gX6_wantItem_X6_wantOne : GoodIn wsX6_wantItem (wsV RX6 237 RX6 yX6_wantOne wsX6_wantOne) := goodIn_app (goodIn_of _ (by decide +kernel)) ggX6_wantItem_X6_wantOne
set_option maxRecDepth 20000 in
theorem ggX6_wantItem_X6_may : GoodIn wsX6_wantItem wsX6_may := goodIn_r _ [77, 3, 15, 16, 17, 7, 18, 19, 20, 27, 28, 29, 30, 31, 32, 26, 33, 34, 35, 36, 37, 38, 39, 40, 41, 42, 43, 44, 45, 46, 47, 48, 49, 50, 97, 98, 99, 100, 101, 102, 103, 104, 105, 106, 107, 108, 109, 110, 111, 112, 113, 114, 115, 116] (by decide +kernel) (by decide +kernel)
set_option maxRecDepth 20000 in
theorem gX6_wantItem_X6_may : GoodIn wsX6_wantItem (wsV RX6 223 RX6 yX6_may wsX6_may) := goodIn_app (goodIn_of _ (by decide +kernel)) ggX6_wantItem_X6_may
set_option maxRecDepth 20000 in
theorem ggX6_wantItem_X6_wantLaying : GoodIn wsX6_wantItem wsX6_wantLaying := goodIn_r _ [81, 82, 83, 84, 3, 25, 62, 63, 64, 7, 65, 26, 19, 45, 46, 47, 27, 28, 29, 30, 31, 32, 20, 33, 34, 35, 36, 37, 38, 39, 40, 41, 42, 43, 44, 48, 49, 50, 74, 75, 76, 77, 15, 16, 17, 18, 85, 86, 87, 88, 97, 98, 99, 100, 101, 102, 103, 104, 105, 106, 107, 108, 109, 110, 111, 112, 113, 114, 115, 116] (by decide +kernel) (by decide +kernel)
set_option maxRecDepth 20000 in
theorem gX6_wantItem_X6_wantLaying : GoodIn wsX6_wantItem (wsV RX6 242 RX6 yX6_wantLaying wsX6_wantLaying) := goodIn_app (goodIn_of _ (by decide +kernel)) ggX6_wantItem_X6_wantLaying
set_option maxRecDepth 20000 in
theorem ggX6_wantItem_X6_wantChange : GoodIn wsX6_wantItem wsX6_wantChange := goodIn_r _ [92, 25, 3, 19, 26, 62, 63, 64, 7, 65, 45, 46, 47, 27, 28, 29, 30, 31, 32, 20, 33, 34, 35, 36, 37, 38, 39, 40, 41, 42, 43, 44, 48, 49, 50, 93, 94, 95, 96, 58, 59, 60, 61, 70, 71, 72, 73, 97, 98, 99, 100, 101, 102, 103, 104, 105, 106, 107, 108, 109, 110, 111, 112, 113, 114, 115, 116] (by decide +kernel) (by decide +kernel)
set_option maxRecDepth 20000 in
theorem gX6_wantItem_X6_wantChange : GoodIn wsX6_wantItem (wsV RX6 247 RX6 yX6_wantChange wsX6_wantChange) := goodIn_app (goodIn_of _ (by decide +kernel)) ggX6_wantItem_X6_wantChange
theorem dX6_wantItem_0 : decode cX6_wantItem 0 = .ok (.aload_n 0, 1) := by decide +kernel
theorem dX6_wantItem_1 : decode cX6_wantItem 1 = .ok (.invokevirtual 234, 3) := by decide +kernel
theorem dX6_wantItem_4 : decode cX6_wantItem 4 = .ok (.ifCond .lt 14, 3) := by decide +kernel
theorem dX6_wantItem_7 : decode cX6_wantItem 7 = .ok (.aload_n 0, 1) := by decide +kernel
theorem dX6_wantItem_8 : decode cX6_wantItem 8 = .ok (.aload_n 0, 1) := by decide +kernel
theorem dX6_wantItem_9 : decode cX6_wantItem 9 = .ok (.invokevirtual 234, 3) := by decide +kernel
theorem dX6_wantItem_12 : decode cX6_wantItem 12 = .ok (.invokevirtual 237, 3) := by decide +kernel
theorem dX6_wantItem_15 : decode cX6_wantItem 15 = .ok (.goto 42, 3) := by decide +kernel
theorem dX6_wantItem_18 : decode cX6_wantItem 18 = .ok (.aload_n 0, 1) := by decide +kernel
theorem dX6_wantItem_19 : decode cX6_wantItem 19 = .ok (.ldc2_w 240, 3) := by decide +kernel
theorem dX6_wantItem_22 : decode cX6_wantItem 22 = .ok (.invokevirtual 223, 3) := by decide +kernel
theorem dX6_wantItem_25 : decode cX6_wantItem 25 = .ok (.ifCond .eq 10, 3) := by decide +kernel
theorem dX6_wantItem_28 : decode cX6_wantItem 28 = .ok (.aload_n 0, 1) := by decide +kernel
theorem dX6_wantItem_29 : decode cX6_wantItem 29 = .ok (.invokevirtual 242, 3) := by decide +kernel
theorem dX6_wantItem_32 : decode cX6_wantItem 32 = .ok (.goto 25, 3) := by decide +kernel
theorem dX6_wantItem_35 : decode cX6_wantItem 35 = .ok (.aload_n 0, 1) := by decide +kernel
theorem dX6_wantItem_36 : decode cX6_wantItem 36 = .ok (.ldc2_w 245, 3) := by decide +kernel
theorem dX6_wantItem_39 : decode cX6_wantItem 39 = .ok (.invokevirtual 223, 3) := by decide +kernel
theorem dX6_wantItem_42 : decode cX6_wantItem 42 = .ok (.ifCond .eq 10, 3) := by decide +kernel
theorem dX6_wantItem_45 : decode cX6_wantItem 45 = .ok (.aload_n 0, 1) := by decide +kernel
theorem dX6_wantItem_46 : decode cX6_wantItem 46 = .ok (.invokevirtual 247, 3) := by decide +kernel
theorem dX6_wantItem_49 : decode cX6_wantItem 49 = .ok (.goto 8, 3) := by decide +kernel
theorem dX6_wantItem_52 : decode cX6_wantItem 52 = .ok (.aload_n 0, 1) := by decide +kernel
theorem dX6_wantItem_53 : decode cX6_wantItem 53 = .ok (.iconst 0, 1) := by decide +kernel
theorem dX6_wantItem_54 : decode cX6_wantItem 54 = .ok (.putfield 211, 3) := by decide +kernel
theorem dX6_wantItem_57 : decode cX6_wantItem 57 = .ok (.return_, 1) := by decide +kernel
set_option maxRecDepth 20000 in
theorem ggX6_dinner_X6_moveAll : GoodIn wsX6_dinner wsX6_moveAll := goodIn_r _ [12, 13, 106, 107, 108, 109, 110, 111, 112, 113, 114, 115, 116, 117, 118, 119, 120, 121, 122, 123, 124, 125] (by decide +kernel) (by decide +kernel)
set_option maxRecDepth 20000 in
theorem gX6_dinner_X6_moveAll : GoodIn wsX6_dinner (wsV RX6 149 RX6 yX6_moveAll wsX6_moveAll) := goodIn_app (goodIn_of _ (by decide +kernel)) ggX6_dinner_X6_moveAll
set_option maxRecDepth 20000 in
theorem ggX6_dinner_X6_advance : GoodIn wsX6_dinner wsX6_advance := goodIn_r _ [17, 2, 7, 4, 18, 5, 19, 20, 21, 22, 23, 24, 11, 25, 6, 26, 27, 28, 29, 30, 31, 32, 33, 34, 35, 106, 107, 108, 109, 110, 111, 112, 113, 114, 115, 116, 117, 118, 119, 120, 121, 122, 123, 124, 125] (by decide +kernel) (by decide +kernel)
set_option maxRecDepth 20000 in
theorem gX6_dinner_X6_advance : GoodIn wsX6_dinner (wsV RX6 215 RX6 yX6_advance wsX6_advance) := goodIn_app (goodIn_of _ (by decide +kernel)) ggX6_dinner_X6_advance
set_option maxRecDepth 20000 in
theorem ggX6_dinner_X6_wantItem : GoodIn wsX6_dinner wsX6_wantItem := goodIn_r _ [39, 40, 41, 3, 42, 43, 44, 11, 45, 46, 47, 48, 49, 50, 51, 52, 53, 54, 55, 4, 18, 56, 57, 58, 59, 13, 5, 14, 15, 16, 17, 2, 7, 19, 20, 21, 22, 23, 24, 25, 6, 26, 27, 28, 29, 30, 31, 32, 33, 34, 35, 60, 61, 62, 63, 64, 65, 66, 67, 68, 69, 70, 71, 72, 73, 74, 75, 76, 77, 78, 79, 80, 81, 82, 83, 84, 85, 86, 87, 88, 89, 90, 91, 92, 93, 94, 95, 96, 97, 98, 99, 100, 101, 102, 103, 104, 105, 106, 107, 108, 109, 110, 111, 112, 113, 114, 115, 116, 117, 118, 119, 120, 121, 122, 123, 124, 125] (by decide +kernel) (by decide +kernel)
set_option maxRecDepth 20000 in
theorem gX6_dinner_X6_wantItem : GoodIn wsX6_dinner (wsV RX6 250 RX6 yX6_wantItem wsX6_wantItem) := goodIn_app (goodIn_of _ (by decide +kernel)) ggX6_dinner_X6_wantItem
theorem dX6_dinner_0 : decode cX6_dinner 0 = .ok (.aload_n 0, 1) := by decide +kernel
theorem dX6_dinner_1 : decode cX6_dinner 1 = .ok (.iconst 1, 1) := by decide +kernel
theorem dX6_dinner_2 : decode cX6_dinner 2 = .ok (.aload_n 0, 1) := by decide +kernel
theorem dX6_dinner_3 : decode cX6_dinner 3 = .ok (.getfield 44, 3) := by decide +kernel
theorem dX6_dinner_6 : decode cX6_dinner 6 = .ok (.invokevirtual 149, 3) := by decide +kernel
theorem dX6_dinner_9 : decode cX6_dinner 9 = .ok (.aload_n 0, 1) := by decide +kernel
theorem dX6_dinner_10 : decode cX6_dinner 10 = .ok (.iconst 0, 1) := by decide +kernel
theorem dX6_dinner_11 : decode cX6_dinner 11 = .ok (.putfield 164, 3) := by decide +kernel
theorem dX6_dinner_14 : decode cX6_dinner 14 = .ok (.aload_n 0, 1) := by decide +kernel
theorem dX6_dinner_15 : decode cX6_dinner 15 = .ok (.iconst 1, 1) := by decide +kernel
theorem dX6_dinner_16 : decode cX6_dinner 16 = .ok (.putfield 211, 3) := by decide +kernel
theorem dX6_dinner_19 : decode cX6_dinner 19 = .ok (.iconst 0, 1) := by decide +kernel
theorem dX6_dinner_20 : decode cX6_dinner 20 = .ok (.istore_n 1, 1) := by decide +kernel
theorem dX6_dinner_21 : decode cX6_dinner 21 = .ok (.iconst 1, 1) := by decide +kernel
theorem dX6_dinner_22 : decode cX6_dinner 22 = .ok (.istore_n 2, 1) := by decide +kernel
theorem dX6_dinner_23 : decode cX6_dinner 23 = .ok (.iload_n 2, 1) := by decide +kernel
theorem dX6_dinner_24 : decode cX6_dinner 24 = .ok (.ifCond .eq 47, 3) := by decide +kernel
theorem dX6_dinner_27 : decode cX6_dinner 27 = .ok (.aload_n 0, 1) := by decide +kernel
theorem dX6_dinner_28 : decode cX6_dinner 28 = .ok (.invokevirtual 215, 3) := by decide +kernel
theorem dX6_dinner_31 : decode cX6_dinner 31 = .ok (.aload_n 0, 1) := by decide +kernel
theorem dX6_dinner_32 : decode cX6_dinner 32 = .ok (.invokevirtual 250, 3) := by decide +kernel
theorem dX6_dinner_35 : decode cX6_dinner 35 = .ok (.iinc 1 1, 3) := by decide +kernel
theorem dX6_dinner_38 : decode cX6_dinner 38 = .ok (.aload_n 0, 1) := by decide +kernel
theorem dX6_dinner_39 : decode cX6_dinner 39 = .ok (.getfield 211, 3) := by decide +kernel
theorem dX6_dinner_42 : decode cX6_dinner 42 = .ok (.ifCond .eq 24, 3) := by decide +kernel
theorem dX6_dinner_45 : decode cX6_dinner 45 = .ok (.aload_n 0, 1) := by decide +kernel
theorem dX6_dinner_46 : decode cX6_dinner 46 = .ok (.getfield 179, 3) := by decide +kernel
theorem dX6_dinner_49 : decode cX6_dinner 49 = .ok (.iconst 3, 1) := by decide +kernel
theorem dX6_dinner_50 : decode cX6_dinner 50 = .ok (.if_icmp .ne 16, 3) := by decide +kernel
theorem dX6_dinner_53 : decode cX6_dinner 53 = .ok (.aload_n 0, 1) := by decide +kernel
theorem dX6_dinner_54 : decode cX6_dinner 54 = .ok (.getfield 186, 3) := by decide +kernel
theorem dX6_dinner_57 : decode cX6_dinner 57 = .ok (.bipush 59, 2) := by decide +kernel
theorem dX6_dinner_59 : decode cX6_dinner 59 = .ok (.if_icmp .ne 7, 3) := by decide +kernel
theorem dX6_dinner_62 : decode cX6_dinner 62 = .ok (.iconst 1, 1) := by decide +kernel
theorem dX6_dinner_63 : decode cX6_dinner 63 = .ok (.goto 4, 3) := by decide +kernel
theorem dX6_dinner_66 : decode cX6_dinner 66 = .ok (.iconst 0, 1) := by decide +kernel
theorem dX6_dinner_67 : decode cX6_dinner 67 = .ok (.istore_n 2, 1) := by decide +kernel
theorem dX6_dinner_68 : decode cX6_dinner 68 = .ok (.goto (-45), 3) := by decide +kernel
theorem dX6_dinner_71 : decode cX6_dinner 71 = .ok (.aload_n 0, 1) := by decide +kernel
theorem dX6_dinner_72 : decode cX6_dinner 72 = .ok (.aload_n 0, 1) := by decide +kernel
theorem dX6_dinner_73 : decode cX6_dinner 73 = .ok (.getfield 211, 3) := by decide +kernel
theorem dX6_dinner_76 : decode cX6_dinner 76 = .ok (.ifCond .eq 14, 3) := by decide +kernel
theorem dX6_dinner_79 : decode cX6_dinner 79 = .ok (.aload_n 0, 1) := by decide +kernel
theorem dX6_dinner_80 : decode cX6_dinner 80 = .ok (.getfield 179, 3) := by decide +kernel
theorem dX6_dinner_83 : decode cX6_dinner 83 = .ok (.ifCond .ne 7, 3) := by decide +kernel
theorem dX6_dinner_86 : decode cX6_dinner 86 = .ok (.iconst 1, 1) := by decide +kernel
theorem dX6_dinner_87 : decode cX6_dinner 87 = .ok (.goto 4, 3) := by decide +kernel
theorem dX6_dinner_90 : decode cX6_dinner 90 = .ok (.iconst 0, 1) := by decide +kernel
theorem dX6_dinner_91 : decode cX6_dinner 91 = .ok (.putfield 211, 3) := by decide +kernel
theorem dX6_dinner_94 : decode cX6_dinner 94 = .ok (.aload_n 0, 1) := by decide +kernel
theorem dX6_dinner_95 : decode cX6_dinner 95 = .ok (.iconst 0, 1) := by decide +kernel
theorem dX6_dinner_96 : decode cX6_dinner 96 = .ok (.putfield 160, 3) := by decide +kernel
theorem dX6_dinner_99 : decode cX6_dinner 99 = .ok (.aload_n 0, 1) := by decide +kernel
theorem dX6_dinner_100 : decode cX6_dinner 100 = .ok (.getfield 211, 3) := by decide +kernel
theorem dX6_dinner_103 : decode cX6_dinner 103 = .ok (.ifCond .ne 19, 3) := by decide +kernel
theorem dX6_dinner_106 : decode cX6_dinner 106 = .ok (.aload_n 0, 1) := by decide +kernel
theorem dX6_dinner_107 : decode cX6_dinner 107 = .ok (.iconst 0, 1) := by decide +kernel
theorem dX6_dinner_108 : decode cX6_dinner 108 = .ok (.aload_n 0, 1) := by decide +kernel
theorem dX6_dinner_109 : decode cX6_dinner 109 = .ok (.getfield 44, 3) := by decide +kernel
theorem dX6_dinner_112 : decode cX6_dinner 112 = .ok (.invokevirtual 149, 3) := by decide +kernel
theorem dX6_dinner_115 : decode cX6_dinner 115 = .ok (.iconst (-1), 1) := by decide +kernel
theorem dX6_dinner_116 : decode cX6_dinner 116 = .ok (.aload_n 0, 1) := by decide +kernel
theorem dX6_dinner_117 : decode cX6_dinner 117 = .ok (.getfield 167, 3) := by decide +kernel
theorem dX6_dinner_120 : decode cX6_dinner 120 = .ok (.isub, 1) := by decide +kernel
theorem dX6_dinner_121 : decode cX6_dinner 121 = .ok (.ireturn, 1) := by decide +kernel
theorem dX6_dinner_122 : decode cX6_dinner 122 = .ok (.iload_n 1, 1) := by decide +kernel
theorem dX6_dinner_123 : decode cX6_dinner 123 = .ok (.ireturn, 1) := by decide +kernel
set_option maxRecDepth 20000 in
theorem ggX6_isSheet_X6_in : GoodIn wsX6_isSheet wsX6_in := goodIn_r _ [4] (by decide +kernel) (by decide +kernel)
set_option maxRecDepth 20000 in
theorem gX6_isSheet_X6_in : GoodIn wsX6_isSheet (va_wsS RX6 48 yX6_in wsX6_in) := goodIn_app (goodIn_of _ (by decide +kernel)) ggX6_isSheet_X6_in
theorem dX6_isSheet_0 : decode cX6_isSheet 0 = .ok (.iload_n 0, 1) := by decide +kernel
theorem dX6_isSheet_1 : decode cX6_isSheet 1 = .ok (.iconst 0, 1) := by decide +kernel
theorem dX6_isSheet_2 : decode cX6_isSheet 2 = .ok (.iconst 3, 1) := by decide +kernel
theorem dX6_isSheet_3 : decode cX6_isSheet 3 = .ok (.invokestatic 48, 3) := by decide +kernel
theorem dX6_isSheet_6 : decode cX6_isSheet 6 = .ok (.ireturn, 1) := by decide +kernel
theorem dX6_narrow_0 : decode cX6_narrow 0 = .ok (.iload_n 0, 1) := by decide +kernel
theorem dX6_narrow_1 : decode cX6_narrow 1 = .ok (.bipush 8, 2) := by decide +kernel
theorem dX6_narrow_3 : decode cX6_narrow 3 = .ok (.if_icmp .ne 13, 3) := by decide +kernel
theorem dX6_narrow_6 : decode cX6_narrow 6 = .ok (.lload_n 1, 1) := by decide +kernel
theorem dX6_narrow_7 : decode cX6_narrow 7 = .ok (.bipush 56, 2) := by decide +kernel
theorem dX6_narrow_9 : decode cX6_narrow 9 = .ok (.lshl, 1) := by decide +kernel
theorem dX6_narrow_10 : decode cX6_narrow 10 = .ok (.bipush 56, 2) := by decide +kernel
theorem dX6_narrow_12 : decode cX6_narrow 12 = .ok (.lshr, 1) := by decide +kernel
theorem dX6_narrow_13 : decode cX6_narrow 13 = .ok (.goto 20, 3) := by decide +kernel
theorem dX6_narrow_16 : decode cX6_narrow 16 = .ok (.iload_n 0, 1) := by decide +kernel
theorem dX6_narrow_17 : decode cX6_narrow 17 = .ok (.bipush 16, 2) := by decide +kernel
