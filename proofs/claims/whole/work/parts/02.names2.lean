theorem dX4_tokenWith_1 : decode cX4_tokenWith 1 = .ok (.bipush 97, 2) := by decide +kernel
theorem dX4_tokenWith_3 : decode cX4_tokenWith 3 = .ok (.if_icmp .lt 11, 3) := by decide +kernel
theorem dX4_tokenWith_6 : decode cX4_tokenWith 6 = .ok (.iload_n 0, 1) := by decide +kernel
theorem dX4_tokenWith_7 : decode cX4_tokenWith 7 = .ok (.bipush 122, 2) := by decide +kernel
theorem dX4_tokenWith_9 : decode cX4_tokenWith 9 = .ok (.if_icmp .gt 5, 3) := by decide +kernel
theorem dX4_tokenWith_12 : decode cX4_tokenWith 12 = .ok (.iconst 1, 1) := by decide +kernel
theorem dX4_tokenWith_13 : decode cX4_tokenWith 13 = .ok (.ireturn, 1) := by decide +kernel
theorem dX4_tokenWith_14 : decode cX4_tokenWith 14 = .ok (.iload_n 0, 1) := by decide +kernel
theorem dX4_tokenWith_15 : decode cX4_tokenWith 15 = .ok (.bipush 48, 2) := by decide +kernel
theorem dX4_tokenWith_17 : decode cX4_tokenWith 17 = .ok (.if_icmp .lt 11, 3) := by decide +kernel
theorem dX4_tokenWith_20 : decode cX4_tokenWith 20 = .ok (.iload_n 0, 1) := by decide +kernel
theorem dX4_tokenWith_21 : decode cX4_tokenWith 21 = .ok (.bipush 57, 2) := by decide +kernel
theorem dX4_tokenWith_23 : decode cX4_tokenWith 23 = .ok (.if_icmp .gt 5, 3) := by decide +kernel
theorem dX4_tokenWith_26 : decode cX4_tokenWith 26 = .ok (.iconst 2, 1) := by decide +kernel
theorem dX4_tokenWith_27 : decode cX4_tokenWith 27 = .ok (.ireturn, 1) := by decide +kernel
theorem dX4_tokenWith_28 : decode cX4_tokenWith 28 = .ok (.iload_n 0, 1) := by decide +kernel
theorem dX4_tokenWith_29 : decode cX4_tokenWith 29 = .ok (.bipush 59, 2) := by decide +kernel
theorem dX4_tokenWith_31 : decode cX4_tokenWith 31 = .ok (.if_icmp .ne 7, 3) := by decide +kernel
theorem dX4_tokenWith_34 : decode cX4_tokenWith 34 = .ok (.iconst 3, 1) := by decide +kernel
theorem dX4_tokenWith_35 : decode cX4_tokenWith 35 = .ok (.goto 4, 3) := by decide +kernel
theorem dX4_tokenWith_38 : decode cX4_tokenWith 38 = .ok (.iconst 4, 1) := by decide +kernel
theorem dX4_tokenWith_39 : decode cX4_tokenWith 39 = .ok (.ireturn, 1) := by decide +kernel
set_option maxRecDepth 20000 in
theorem ggX4_isWord_J0_length_8abf5 : GoodIn wsX4_isWord wsJ0_length_8abf5 := goodIn_r _ [9, 10, 11, 12, 13, 8, 14, 15, 16] (by decide +kernel) (by decide +kernel)
set_option maxRecDepth 20000 in
theorem gX4_isWord_J0_length_8abf5 : GoodIn wsX4_isWord (wsV RX4 44 RJ0 yJ0_length_8abf5 wsJ0_length_8abf5) := goodIn_app (goodIn_of _ (by decide +kernel)) ggX4_isWord_J0_length_8abf5
set_option maxRecDepth 20000 in
theorem ggX4_isWord_J0_charAt_5068e : GoodIn wsX4_isWord wsJ0_charAt_5068e := goodIn_r _ [20, 10, 21, 22, 23, 8, 24, 15, 16, 25, 26, 27, 28, 29, 30, 31, 32, 33, 34, 35, 36, 37, 38, 39, 40, 41, 42, 43, 44, 45, 46, 47, 48, 49, 50, 51, 52, 53] (by decide +kernel) (by decide +kernel)
set_option maxRecDepth 20000 in
theorem gX4_isWord_J0_charAt_5068e : GoodIn wsX4_isWord (wsV RX4 49 RJ0 yJ0_charAt_5068e wsJ0_charAt_5068e) := goodIn_app (goodIn_of _ (by decide +kernel)) ggX4_isWord_J0_charAt_5068e
theorem dX4_isWord_0 : decode cX4_isWord 0 = .ok (.aload_n 0, 1) := by decide +kernel
theorem dX4_isWord_1 : decode cX4_isWord 1 = .ok (.getfield 22, 3) := by decide +kernel
theorem dX4_isWord_4 : decode cX4_isWord 4 = .ok (.iconst 1, 1) := by decide +kernel
theorem dX4_isWord_5 : decode cX4_isWord 5 = .ok (.if_icmp .ne 19, 3) := by decide +kernel
theorem dX4_isWord_8 : decode cX4_isWord 8 = .ok (.aload_n 0, 1) := by decide +kernel
theorem dX4_isWord_9 : decode cX4_isWord 9 = .ok (.getfield 28, 3) := by decide +kernel
theorem dX4_isWord_12 : decode cX4_isWord 12 = .ok (.aload_n 0, 1) := by decide +kernel
theorem dX4_isWord_13 : decode cX4_isWord 13 = .ok (.getfield 25, 3) := by decide +kernel
theorem dX4_isWord_16 : decode cX4_isWord 16 = .ok (.isub, 1) := by decide +kernel
theorem dX4_isWord_17 : decode cX4_isWord 17 = .ok (.aload_n 1, 1) := by decide +kernel
theorem dX4_isWord_18 : decode cX4_isWord 18 = .ok (.invokevirtual 44, 3) := by decide +kernel
theorem dX4_isWord_21 : decode cX4_isWord 21 = .ok (.if_icmp .eq 5, 3) := by decide +kernel
theorem dX4_isWord_24 : decode cX4_isWord 24 = .ok (.iconst 0, 1) := by decide +kernel
theorem dX4_isWord_25 : decode cX4_isWord 25 = .ok (.ireturn, 1) := by decide +kernel
theorem dX4_isWord_26 : decode cX4_isWord 26 = .ok (.iconst 0, 1) := by decide +kernel
theorem dX4_isWord_27 : decode cX4_isWord 27 = .ok (.istore_n 2, 1) := by decide +kernel
theorem dX4_isWord_28 : decode cX4_isWord 28 = .ok (.iload_n 2, 1) := by decide +kernel
theorem dX4_isWord_29 : decode cX4_isWord 29 = .ok (.aload_n 1, 1) := by decide +kernel
theorem dX4_isWord_30 : decode cX4_isWord 30 = .ok (.invokevirtual 44, 3) := by decide +kernel
theorem dX4_isWord_33 : decode cX4_isWord 33 = .ok (.if_icmp .ge 30, 3) := by decide +kernel
theorem dX4_isWord_36 : decode cX4_isWord 36 = .ok (.aload_n 0, 1) := by decide +kernel
theorem dX4_isWord_37 : decode cX4_isWord 37 = .ok (.getfield 9, 3) := by decide +kernel
theorem dX4_isWord_40 : decode cX4_isWord 40 = .ok (.aload_n 0, 1) := by decide +kernel
theorem dX4_isWord_41 : decode cX4_isWord 41 = .ok (.getfield 25, 3) := by decide +kernel
theorem dX4_isWord_44 : decode cX4_isWord 44 = .ok (.iload_n 2, 1) := by decide +kernel
theorem dX4_isWord_45 : decode cX4_isWord 45 = .ok (.iadd, 1) := by decide +kernel
theorem dX4_isWord_46 : decode cX4_isWord 46 = .ok (.iaload, 1) := by decide +kernel
theorem dX4_isWord_47 : decode cX4_isWord 47 = .ok (.aload_n 1, 1) := by decide +kernel
theorem dX4_isWord_48 : decode cX4_isWord 48 = .ok (.iload_n 2, 1) := by decide +kernel
theorem dX4_isWord_49 : decode cX4_isWord 49 = .ok (.invokevirtual 49, 3) := by decide +kernel
theorem dX4_isWord_52 : decode cX4_isWord 52 = .ok (.if_icmp .eq 5, 3) := by decide +kernel
theorem dX4_isWord_55 : decode cX4_isWord 55 = .ok (.iconst 0, 1) := by decide +kernel
theorem dX4_isWord_56 : decode cX4_isWord 56 = .ok (.ireturn, 1) := by decide +kernel
theorem dX4_isWord_57 : decode cX4_isWord 57 = .ok (.iinc 2 1, 3) := by decide +kernel
theorem dX4_isWord_60 : decode cX4_isWord 60 = .ok (.goto (-32), 3) := by decide +kernel
theorem dX4_isWord_63 : decode cX4_isWord 63 = .ok (.iconst 1, 1) := by decide +kernel
theorem dX4_isWord_64 : decode cX4_isWord 64 = .ok (.ireturn, 1) := by decide +kernel
theorem dX4_isNumberBelow_0 : decode cX4_isNumberBelow 0 = .ok (.aload_n 0, 1) := by decide +kernel
theorem dX4_isNumberBelow_1 : decode cX4_isNumberBelow 1 = .ok (.getfield 22, 3) := by decide +kernel
theorem dX4_isNumberBelow_4 : decode cX4_isNumberBelow 4 = .ok (.iconst 2, 1) := by decide +kernel
theorem dX4_isNumberBelow_5 : decode cX4_isNumberBelow 5 = .ok (.if_icmp .ne 15, 3) := by decide +kernel
theorem dX4_isNumberBelow_8 : decode cX4_isNumberBelow 8 = .ok (.aload_n 0, 1) := by decide +kernel
theorem dX4_isNumberBelow_9 : decode cX4_isNumberBelow 9 = .ok (.getfield 31, 3) := by decide +kernel
theorem dX4_isNumberBelow_12 : decode cX4_isNumberBelow 12 = .ok (.iload_n 1, 1) := by decide +kernel
theorem dX4_isNumberBelow_13 : decode cX4_isNumberBelow 13 = .ok (.if_icmp .ge 7, 3) := by decide +kernel
theorem dX4_isNumberBelow_16 : decode cX4_isNumberBelow 16 = .ok (.iconst 1, 1) := by decide +kernel
theorem dX4_isNumberBelow_17 : decode cX4_isNumberBelow 17 = .ok (.goto 4, 3) := by decide +kernel
theorem dX4_isNumberBelow_20 : decode cX4_isNumberBelow 20 = .ok (.iconst 0, 1) := by decide +kernel
theorem dX4_isNumberBelow_21 : decode cX4_isNumberBelow 21 = .ok (.ireturn, 1) := by decide +kernel
set_option maxRecDepth 20000 in
theorem ggX5_init_X3_init : GoodIn wsX5_init wsX3_init := goodIn_r _ [23, 24, 2, 3, 25, 19, 26, 27, 28, 29, 30, 31, 32, 33, 34, 35, 36, 37, 38, 39, 40, 41, 64, 65, 66, 67, 68, 69, 70, 71, 72, 73, 74, 75, 76] (by decide +kernel) (by decide +kernel)
set_option maxRecDepth 20000 in
theorem gX5_init_X3_init : GoodIn wsX5_init (wsX3_init) := ggX5_init_X3_init
set_option maxRecDepth 20000 in
theorem ggX5_init_X4_init : GoodIn wsX5_init wsX4_init := goodIn_r _ [44, 45, 2, 3, 19, 46, 47, 48, 49, 50, 13, 51, 52, 53, 54, 55, 84, 85, 86, 87, 88, 89] (by decide +kernel) (by decide +kernel)
set_option maxRecDepth 20000 in
theorem gX5_init_X4_init : GoodIn wsX5_init (wsX4_init) := ggX5_init_X4_init
set_option maxRecDepth 20000 in
theorem ggX5_init_X2_init : GoodIn wsX5_init wsX2_init := goodIn_r _ [58, 59, 2, 3, 60, 61, 62, 63, 90, 91, 92] (by decide +kernel) (by decide +kernel)
set_option maxRecDepth 20000 in
theorem gX5_init_X2_init : GoodIn wsX5_init (wsX2_init) := ggX5_init_X2_init
theorem dX5_init_0 : decode cX5_init 0 = .ok (.aload_n 0, 1) := by decide +kernel
theorem dX5_init_1 : decode cX5_init 1 = .ok (.invokespecial 1, 3) := by decide +kernel
theorem dX5_init_4 : decode cX5_init 4 = .ok (.aload_n 0, 1) := by decide +kernel
theorem dX5_init_5 : decode cX5_init 5 = .ok (.new 7, 3) := by decide +kernel
theorem dX5_init_8 : decode cX5_init 8 = .ok (.dup, 1) := by decide +kernel
theorem dX5_init_9 : decode cX5_init 9 = .ok (.invokespecial 9, 3) := by decide +kernel
theorem dX5_init_12 : decode cX5_init 12 = .ok (.putfield 10, 3) := by decide +kernel
theorem dX5_init_15 : decode cX5_init 15 = .ok (.aload_n 0, 1) := by decide +kernel
theorem dX5_init_16 : decode cX5_init 16 = .ok (.new 7, 3) := by decide +kernel
theorem dX5_init_19 : decode cX5_init 19 = .ok (.dup, 1) := by decide +kernel
theorem dX5_init_20 : decode cX5_init 20 = .ok (.invokespecial 9, 3) := by decide +kernel
theorem dX5_init_23 : decode cX5_init 23 = .ok (.putfield 16, 3) := by decide +kernel
theorem dX5_init_26 : decode cX5_init 26 = .ok (.aload_n 0, 1) := by decide +kernel
theorem dX5_init_27 : decode cX5_init 27 = .ok (.new 7, 3) := by decide +kernel
theorem dX5_init_30 : decode cX5_init 30 = .ok (.dup, 1) := by decide +kernel
theorem dX5_init_31 : decode cX5_init 31 = .ok (.invokespecial 9, 3) := by decide +kernel
theorem dX5_init_34 : decode cX5_init 34 = .ok (.putfield 19, 3) := by decide +kernel
theorem dX5_init_37 : decode cX5_init 37 = .ok (.aload_n 0, 1) := by decide +kernel
theorem dX5_init_38 : decode cX5_init 38 = .ok (.iconst 0, 1) := by decide +kernel
theorem dX5_init_39 : decode cX5_init 39 = .ok (.putfield 22, 3) := by decide +kernel
theorem dX5_init_42 : decode cX5_init 42 = .ok (.aload_n 0, 1) := by decide +kernel
theorem dX5_init_43 : decode cX5_init 43 = .ok (.new 26, 3) := by decide +kernel
theorem dX5_init_46 : decode cX5_init 46 = .ok (.dup, 1) := by decide +kernel
theorem dX5_init_47 : decode cX5_init 47 = .ok (.invokespecial 28, 3) := by decide +kernel
theorem dX5_init_50 : decode cX5_init 50 = .ok (.putfield 29, 3) := by decide +kernel
theorem dX5_init_53 : decode cX5_init 53 = .ok (.aload_n 0, 1) := by decide +kernel
theorem dX5_init_54 : decode cX5_init 54 = .ok (.iconst 4, 1) := by decide +kernel
theorem dX5_init_55 : decode cX5_init 55 = .ok (.anewarray 33, 3) := by decide +kernel
theorem dX5_init_58 : decode cX5_init 58 = .ok (.putfield 35, 3) := by decide +kernel
theorem dX5_init_61 : decode cX5_init 61 = .ok (.iconst 0, 1) := by decide +kernel
theorem dX5_init_62 : decode cX5_init 62 = .ok (.istore_n 1, 1) := by decide +kernel
theorem dX5_init_63 : decode cX5_init 63 = .ok (.iload_n 1, 1) := by decide +kernel
theorem dX5_init_64 : decode cX5_init 64 = .ok (.iconst 4, 1) := by decide +kernel
theorem dX5_init_65 : decode cX5_init 65 = .ok (.if_icmp .ge 22, 3) := by decide +kernel
theorem dX5_init_68 : decode cX5_init 68 = .ok (.aload_n 0, 1) := by decide +kernel
theorem dX5_init_69 : decode cX5_init 69 = .ok (.getfield 35, 3) := by decide +kernel
theorem dX5_init_72 : decode cX5_init 72 = .ok (.iload_n 1, 1) := by decide +kernel
theorem dX5_init_73 : decode cX5_init 73 = .ok (.new 33, 3) := by decide +kernel
theorem dX5_init_76 : decode cX5_init 76 = .ok (.dup, 1) := by decide +kernel
theorem dX5_init_77 : decode cX5_init 77 = .ok (.invokespecial 39, 3) := by decide +kernel
theorem dX5_init_80 : decode cX5_init 80 = .ok (.aastore, 1) := by decide +kernel
theorem dX5_init_81 : decode cX5_init 81 = .ok (.iinc 1 1, 3) := by decide +kernel
theorem dX5_init_84 : decode cX5_init 84 = .ok (.goto (-21), 3) := by decide +kernel
theorem dX5_init_87 : decode cX5_init 87 = .ok (.aload_n 0, 1) := by decide +kernel
theorem dX5_init_88 : decode cX5_init 88 = .ok (.bipush 7, 2) := by decide +kernel
theorem dX5_init_90 : decode cX5_init 90 = .ok (.newarray .int, 2) := by decide +kernel
theorem dX5_init_92 : decode cX5_init 92 = .ok (.putfield 40, 3) := by decide +kernel
theorem dX5_init_95 : decode cX5_init 95 = .ok (.return_, 1) := by decide +kernel
set_option maxRecDepth 20000 in
theorem ggX5_lay_X5_isPlace : GoodIn wsX5_lay wsX5_isPlace := goodIn_r _ [9] (by decide +kernel) (by decide +kernel)
set_option maxRecDepth 20000 in
theorem gX5_lay_X5_isPlace : GoodIn wsX5_lay (va_wsS RX5 44 yX5_isPlace wsX5_isPlace) := goodIn_app (goodIn_of _ (by decide +kernel)) ggX5_lay_X5_isPlace
set_option maxRecDepth 20000 in
theorem ggX5_lay_X5_within : GoodIn wsX5_lay wsX5_within := goodIn_r _ [12] (by decide +kernel) (by decide +kernel)
set_option maxRecDepth 20000 in
theorem gX5_lay_X5_within : GoodIn wsX5_lay (va_wsS RX5 48 yX5_within wsX5_within) := goodIn_app (goodIn_of _ (by decide +kernel)) ggX5_lay_X5_within
set_option maxRecDepth 20000 in
theorem ggX5_lay_X5_found : GoodIn wsX5_lay wsX5_found := goodIn_r _ [16, 1, 17, 18, 19, 20, 21, 22, 23, 24] (by decide +kernel) (by decide +kernel)
set_option maxRecDepth 20000 in
theorem gX5_lay_X5_found : GoodIn wsX5_lay (wsV RX5 53 RX5 yX5_found wsX5_found) := goodIn_app (goodIn_of _ (by decide +kernel)) ggX5_lay_X5_found
theorem dX5_lay_0 : decode cX5_lay 0 = .ok (.iload_n 1, 1) := by decide +kernel
theorem dX5_lay_1 : decode cX5_lay 1 = .ok (.invokestatic 44, 3) := by decide +kernel
theorem dX5_lay_4 : decode cX5_lay 4 = .ok (.ifCond .eq 31, 3) := by decide +kernel
theorem dX5_lay_7 : decode cX5_lay 7 = .ok (.iload_n 2, 1) := by decide +kernel
theorem dX5_lay_8 : decode cX5_lay 8 = .ok (.ifCond .lt 27, 3) := by decide +kernel
theorem dX5_lay_11 : decode cX5_lay 11 = .ok (.iload_n 2, 1) := by decide +kernel
theorem dX5_lay_12 : decode cX5_lay 12 = .ok (.iconst 2, 1) := by decide +kernel
theorem dX5_lay_13 : decode cX5_lay 13 = .ok (.if_icmp .gt 22, 3) := by decide +kernel
theorem dX5_lay_16 : decode cX5_lay 16 = .ok (.iload_n 3, 1) := by decide +kernel
theorem dX5_lay_17 : decode cX5_lay 17 = .ok (.iconst 0, 1) := by decide +kernel
theorem dX5_lay_18 : decode cX5_lay 18 = .ok (.iload_n 2, 1) := by decide +kernel
theorem dX5_lay_19 : decode cX5_lay 19 = .ok (.iconst 2, 1) := by decide +kernel
theorem dX5_lay_20 : decode cX5_lay 20 = .ok (.if_icmp .ne 8, 3) := by decide +kernel
theorem dX5_lay_23 : decode cX5_lay 23 = .ok (.bipush 9, 2) := by decide +kernel
theorem dX5_lay_25 : decode cX5_lay 25 = .ok (.goto 4, 3) := by decide +kernel
theorem dX5_lay_28 : decode cX5_lay 28 = .ok (.iconst 1, 1) := by decide +kernel
theorem dX5_lay_29 : decode cX5_lay 29 = .ok (.invokestatic 48, 3) := by decide +kernel
theorem dX5_lay_32 : decode cX5_lay 32 = .ok (.ifCond .ne 10, 3) := by decide +kernel
theorem dX5_lay_35 : decode cX5_lay 35 = .ok (.aload_n 0, 1) := by decide +kernel
theorem dX5_lay_36 : decode cX5_lay 36 = .ok (.ldc 52, 2) := by decide +kernel
theorem dX5_lay_38 : decode cX5_lay 38 = .ok (.invokevirtual 53, 3) := by decide +kernel
theorem dX5_lay_41 : decode cX5_lay 41 = .ok (.ireturn, 1) := by decide +kernel
theorem dX5_lay_42 : decode cX5_lay 42 = .ok (.iload_n 2, 1) := by decide +kernel
theorem dX5_lay_43 : decode cX5_lay 43 = .ok (.ifCond .ne 13, 3) := by decide +kernel
theorem dX5_lay_46 : decode cX5_lay 46 = .ok (.aload_n 0, 1) := by decide +kernel
theorem dX5_lay_47 : decode cX5_lay 47 = .ok (.getfield 10, 3) := by decide +kernel
theorem dX5_lay_50 : decode cX5_lay 50 = .ok (.getfield 57, 3) := by decide +kernel
theorem dX5_lay_53 : decode cX5_lay 53 = .ok (.goto 25, 3) := by decide +kernel
theorem dX5_lay_56 : decode cX5_lay 56 = .ok (.iload_n 2, 1) := by decide +kernel
theorem dX5_lay_57 : decode cX5_lay 57 = .ok (.iconst 1, 1) := by decide +kernel
theorem dX5_lay_58 : decode cX5_lay 58 = .ok (.if_icmp .ne 13, 3) := by decide +kernel
theorem dX5_lay_61 : decode cX5_lay 61 = .ok (.aload_n 0, 1) := by decide +kernel
theorem dX5_lay_62 : decode cX5_lay 62 = .ok (.getfield 10, 3) := by decide +kernel
theorem dX5_lay_65 : decode cX5_lay 65 = .ok (.getfield 60, 3) := by decide +kernel
theorem dX5_lay_68 : decode cX5_lay 68 = .ok (.goto 10, 3) := by decide +kernel
theorem dX5_lay_71 : decode cX5_lay 71 = .ok (.aload_n 0, 1) := by decide +kernel
theorem dX5_lay_72 : decode cX5_lay 72 = .ok (.getfield 10, 3) := by decide +kernel
theorem dX5_lay_75 : decode cX5_lay 75 = .ok (.getfield 63, 3) := by decide +kernel
theorem dX5_lay_78 : decode cX5_lay 78 = .ok (.astore 4, 2) := by decide +kernel
theorem dX5_lay_80 : decode cX5_lay 80 = .ok (.aload 4, 2) := by decide +kernel
theorem dX5_lay_82 : decode cX5_lay 82 = .ok (.iload_n 1, 1) := by decide +kernel
theorem dX5_lay_83 : decode cX5_lay 83 = .ok (.iaload, 1) := by decide +kernel
theorem dX5_lay_84 : decode cX5_lay 84 = .ok (.istore 5, 2) := by decide +kernel
theorem dX5_lay_86 : decode cX5_lay 86 = .ok (.aload 4, 2) := by decide +kernel
theorem dX5_lay_88 : decode cX5_lay 88 = .ok (.iload_n 1, 1) := by decide +kernel
theorem dX5_lay_89 : decode cX5_lay 89 = .ok (.iload_n 3, 1) := by decide +kernel
theorem dX5_lay_90 : decode cX5_lay 90 = .ok (.iastore, 1) := by decide +kernel
theorem dX5_lay_91 : decode cX5_lay 91 = .ok (.iload 5, 2) := by decide +kernel
theorem dX5_lay_93 : decode cX5_lay 93 = .ok (.ireturn, 1) := by decide +kernel
set_option maxRecDepth 20000 in
theorem ggX5_place_X5_isPlace : GoodIn wsX5_place wsX5_isPlace := goodIn_r _ [10] (by decide +kernel) (by decide +kernel)
set_option maxRecDepth 20000 in
theorem gX5_place_X5_isPlace : GoodIn wsX5_place (va_wsS RX5 44 yX5_isPlace wsX5_isPlace) := goodIn_app (goodIn_of _ (by decide +kernel)) ggX5_place_X5_isPlace
set_option maxRecDepth 20000 in
theorem ggX5_place_X5_found : GoodIn wsX5_place wsX5_found := goodIn_r _ [14, 1, 15, 16, 17, 18, 19, 20, 21, 22] (by decide +kernel) (by decide +kernel)
set_option maxRecDepth 20000 in
theorem gX5_place_X5_found : GoodIn wsX5_place (wsV RX5 53 RX5 yX5_found wsX5_found) := goodIn_app (goodIn_of _ (by decide +kernel)) ggX5_place_X5_found
theorem dX5_place_0 : decode cX5_place 0 = .ok (.iload_n 1, 1) := by decide +kernel
theorem dX5_place_1 : decode cX5_place 1 = .ok (.invokestatic 44, 3) := by decide +kernel
theorem dX5_place_4 : decode cX5_place 4 = .ok (.ifCond .ne 10, 3) := by decide +kernel
theorem dX5_place_7 : decode cX5_place 7 = .ok (.aload_n 0, 1) := by decide +kernel
theorem dX5_place_8 : decode cX5_place 8 = .ok (.ldc 52, 2) := by decide +kernel
theorem dX5_place_10 : decode cX5_place 10 = .ok (.invokevirtual 53, 3) := by decide +kernel
theorem dX5_place_13 : decode cX5_place 13 = .ok (.ireturn, 1) := by decide +kernel
theorem dX5_place_14 : decode cX5_place 14 = .ok (.iload_n 2, 1) := by decide +kernel
theorem dX5_place_15 : decode cX5_place 15 = .ok (.tableswitch 69 0 3 #[29, 39, 49, 59], 29) := by decide +kernel
theorem dX5_place_44 : decode cX5_place 44 = .ok (.aload_n 0, 1) := by decide +kernel
theorem dX5_place_45 : decode cX5_place 45 = .ok (.getfield 10, 3) := by decide +kernel
theorem dX5_place_48 : decode cX5_place 48 = .ok (.getfield 57, 3) := by decide +kernel
theorem dX5_place_51 : decode cX5_place 51 = .ok (.iload_n 1, 1) := by decide +kernel
theorem dX5_place_52 : decode cX5_place 52 = .ok (.iaload, 1) := by decide +kernel
theorem dX5_place_53 : decode cX5_place 53 = .ok (.ireturn, 1) := by decide +kernel
theorem dX5_place_54 : decode cX5_place 54 = .ok (.aload_n 0, 1) := by decide +kernel
theorem dX5_place_55 : decode cX5_place 55 = .ok (.getfield 10, 3) := by decide +kernel
theorem dX5_place_58 : decode cX5_place 58 = .ok (.getfield 60, 3) := by decide +kernel
theorem dX5_place_61 : decode cX5_place 61 = .ok (.iload_n 1, 1) := by decide +kernel
theorem dX5_place_62 : decode cX5_place 62 = .ok (.iaload, 1) := by decide +kernel
theorem dX5_place_63 : decode cX5_place 63 = .ok (.ireturn, 1) := by decide +kernel
theorem dX5_place_64 : decode cX5_place 64 = .ok (.aload_n 0, 1) := by decide +kernel
theorem dX5_place_65 : decode cX5_place 65 = .ok (.getfield 10, 3) := by decide +kernel
theorem dX5_place_68 : decode cX5_place 68 = .ok (.getfield 63, 3) := by decide +kernel
theorem dX5_place_71 : decode cX5_place 71 = .ok (.iload_n 1, 1) := by decide +kernel
theorem dX5_place_72 : decode cX5_place 72 = .ok (.iaload, 1) := by decide +kernel
theorem dX5_place_73 : decode cX5_place 73 = .ok (.ireturn, 1) := by decide +kernel
theorem dX5_place_74 : decode cX5_place 74 = .ok (.aload_n 0, 1) := by decide +kernel
theorem dX5_place_75 : decode cX5_place 75 = .ok (.getfield 10, 3) := by decide +kernel
theorem dX5_place_78 : decode cX5_place 78 = .ok (.getfield 66, 3) := by decide +kernel
theorem dX5_place_81 : decode cX5_place 81 = .ok (.iload_n 1, 1) := by decide +kernel
theorem dX5_place_82 : decode cX5_place 82 = .ok (.iaload, 1) := by decide +kernel
theorem dX5_place_83 : decode cX5_place 83 = .ok (.ireturn, 1) := by decide +kernel
theorem dX5_place_84 : decode cX5_place 84 = .ok (.aload_n 0, 1) := by decide +kernel
theorem dX5_place_85 : decode cX5_place 85 = .ok (.ldc 52, 2) := by decide +kernel
theorem dX5_place_87 : decode cX5_place 87 = .ok (.invokevirtual 53, 3) := by decide +kernel
theorem dX5_place_90 : decode cX5_place 90 = .ok (.ireturn, 1) := by decide +kernel
set_option maxRecDepth 20000 in
theorem ggX5_now_X3_soreSet : GoodIn wsX5_now wsX3_soreSet := goodIn_r _ [8, 9, 10, 11, 12, 13, 14, 15, 54, 55, 56, 57, 58, 59, 60, 61, 62, 63, 64, 65, 66] (by decide +kernel) (by decide +kernel)
set_option maxRecDepth 20000 in
theorem gX5_now_X3_soreSet : GoodIn wsX5_now (wsV RX5 73 RX3 yX3_soreSet wsX3_soreSet) := goodIn_app (goodIn_of _ (by decide +kernel)) ggX5_now_X3_soreSet
set_option maxRecDepth 20000 in
theorem ggX5_now_X3_tellingSet : GoodIn wsX5_now wsX3_tellingSet := goodIn_r _ [19, 9, 20, 21, 22, 7, 23, 11, 24, 25, 10, 26, 27, 14, 28, 54, 55, 56, 57, 58, 59, 60, 61, 62, 63, 64, 65, 66] (by decide +kernel) (by decide +kernel)
set_option maxRecDepth 20000 in
theorem gX5_now_X3_tellingSet : GoodIn wsX5_now (wsV RX5 77 RX3 yX3_tellingSet wsX3_tellingSet) := goodIn_app (goodIn_of _ (by decide +kernel)) ggX5_now_X3_tellingSet
set_option maxRecDepth 20000 in
theorem ggX5_now_X3_easeOfAll : GoodIn wsX5_now wsX3_easeOfAll := goodIn_r _ [32, 10, 9, 33, 34, 7, 35, 54, 55, 56, 57, 58, 59, 60, 61, 62, 63, 64, 65, 66] (by decide +kernel) (by decide +kernel)
set_option maxRecDepth 20000 in
theorem gX5_now_X3_easeOfAll : GoodIn wsX5_now (wsV RX5 80 RX3 yX3_easeOfAll wsX3_easeOfAll) := goodIn_app (goodIn_of _ (by decide +kernel)) ggX5_now_X3_easeOfAll
set_option maxRecDepth 20000 in
theorem ggX5_now_X3_toldOfAll : GoodIn wsX5_now wsX3_toldOfAll := goodIn_r _ [39, 40, 9, 33, 34, 7, 35, 54, 55, 56, 57, 58, 59, 60, 61, 62, 63, 64, 65, 66] (by decide +kernel) (by decide +kernel)
set_option maxRecDepth 20000 in
theorem gX5_now_X3_toldOfAll : GoodIn wsX5_now (wsV RX5 83 RX3 yX3_toldOfAll wsX3_toldOfAll) := goodIn_app (goodIn_of _ (by decide +kernel)) ggX5_now_X3_toldOfAll
set_option maxRecDepth 20000 in
theorem ggX5_now_X5_found : GoodIn wsX5_now wsX5_found := goodIn_r _ [45, 3, 46, 47, 48, 49, 50, 51, 52, 53] (by decide +kernel) (by decide +kernel)
set_option maxRecDepth 20000 in
theorem gX5_now_X5_found : GoodIn wsX5_now (wsV RX5 53 RX5 yX5_found wsX5_found) := goodIn_app (goodIn_of _ (by decide +kernel)) ggX5_now_X5_found
theorem dX5_now_0 : decode cX5_now 0 = .ok (.iload_n 1, 1) := by decide +kernel
theorem dX5_now_1 : decode cX5_now 1 = .ok (.tableswitch 99 0 5 #[39, 47, 63, 71, 79, 91], 39) := by decide +kernel
theorem dX5_now_40 : decode cX5_now 40 = .ok (.aload_n 0, 1) := by decide +kernel
theorem dX5_now_41 : decode cX5_now 41 = .ok (.getfield 10, 3) := by decide +kernel
theorem dX5_now_44 : decode cX5_now 44 = .ok (.getfield 69, 3) := by decide +kernel
theorem dX5_now_47 : decode cX5_now 47 = .ok (.ireturn, 1) := by decide +kernel
theorem dX5_now_48 : decode cX5_now 48 = .ok (.aload_n 0, 1) := by decide +kernel
theorem dX5_now_49 : decode cX5_now 49 = .ok (.getfield 10, 3) := by decide +kernel
theorem dX5_now_52 : decode cX5_now 52 = .ok (.invokevirtual 73, 3) := by decide +kernel
theorem dX5_now_55 : decode cX5_now 55 = .ok (.ifCond .ne 7, 3) := by decide +kernel
theorem dX5_now_58 : decode cX5_now 58 = .ok (.iconst 1, 1) := by decide +kernel
theorem dX5_now_59 : decode cX5_now 59 = .ok (.goto 4, 3) := by decide +kernel
theorem dX5_now_62 : decode cX5_now 62 = .ok (.iconst 0, 1) := by decide +kernel
theorem dX5_now_63 : decode cX5_now 63 = .ok (.ireturn, 1) := by decide +kernel
theorem dX5_now_64 : decode cX5_now 64 = .ok (.aload_n 0, 1) := by decide +kernel
theorem dX5_now_65 : decode cX5_now 65 = .ok (.getfield 10, 3) := by decide +kernel
theorem dX5_now_68 : decode cX5_now 68 = .ok (.invokevirtual 77, 3) := by decide +kernel
theorem dX5_now_71 : decode cX5_now 71 = .ok (.ireturn, 1) := by decide +kernel
theorem dX5_now_72 : decode cX5_now 72 = .ok (.aload_n 0, 1) := by decide +kernel
theorem dX5_now_73 : decode cX5_now 73 = .ok (.getfield 10, 3) := by decide +kernel
theorem dX5_now_76 : decode cX5_now 76 = .ok (.invokevirtual 73, 3) := by decide +kernel
theorem dX5_now_79 : decode cX5_now 79 = .ok (.ireturn, 1) := by decide +kernel
theorem dX5_now_80 : decode cX5_now 80 = .ok (.sipush 10000, 3) := by decide +kernel
theorem dX5_now_83 : decode cX5_now 83 = .ok (.aload_n 0, 1) := by decide +kernel
theorem dX5_now_84 : decode cX5_now 84 = .ok (.getfield 10, 3) := by decide +kernel
theorem dX5_now_87 : decode cX5_now 87 = .ok (.invokevirtual 80, 3) := by decide +kernel
theorem dX5_now_90 : decode cX5_now 90 = .ok (.iadd, 1) := by decide +kernel
theorem dX5_now_91 : decode cX5_now 91 = .ok (.ireturn, 1) := by decide +kernel
theorem dX5_now_92 : decode cX5_now 92 = .ok (.aload_n 0, 1) := by decide +kernel
theorem dX5_now_93 : decode cX5_now 93 = .ok (.getfield 10, 3) := by decide +kernel
theorem dX5_now_96 : decode cX5_now 96 = .ok (.invokevirtual 83, 3) := by decide +kernel
theorem dX5_now_99 : decode cX5_now 99 = .ok (.ireturn, 1) := by decide +kernel
theorem dX5_now_100 : decode cX5_now 100 = .ok (.aload_n 0, 1) := by decide +kernel
theorem dX5_now_101 : decode cX5_now 101 = .ok (.ldc 52, 2) := by decide +kernel
theorem dX5_now_103 : decode cX5_now 103 = .ok (.invokevirtual 53, 3) := by decide +kernel
theorem dX5_now_106 : decode cX5_now 106 = .ok (.ireturn, 1) := by decide +kernel
set_option maxRecDepth 20000 in
theorem ggX5_guest_X5_isKind : GoodIn wsX5_guest wsX5_isKind := goodIn_r _ [10] (by decide +kernel) (by decide +kernel)
set_option maxRecDepth 20000 in
theorem gX5_guest_X5_isKind : GoodIn wsX5_guest (va_wsS RX5 86 yX5_isKind wsX5_isKind) := goodIn_app (goodIn_of _ (by decide +kernel)) ggX5_guest_X5_isKind
set_option maxRecDepth 20000 in
theorem ggX5_guest_X5_isPlace : GoodIn wsX5_guest wsX5_isPlace := goodIn_r _ [13] (by decide +kernel) (by decide +kernel)
set_option maxRecDepth 20000 in
theorem gX5_guest_X5_isPlace : GoodIn wsX5_guest (va_wsS RX5 44 yX5_isPlace wsX5_isPlace) := goodIn_app (goodIn_of _ (by decide +kernel)) ggX5_guest_X5_isPlace
set_option maxRecDepth 20000 in
theorem ggX5_guest_X5_found : GoodIn wsX5_guest wsX5_found := goodIn_r _ [17, 1, 18, 31, 32, 33, 34, 35, 36, 37] (by decide +kernel) (by decide +kernel)
set_option maxRecDepth 20000 in
theorem gX5_guest_X5_found : GoodIn wsX5_guest (wsV RX5 53 RX5 yX5_found wsX5_found) := goodIn_app (goodIn_of _ (by decide +kernel)) ggX5_guest_X5_found
set_option maxRecDepth 20000 in
theorem ggX5_guest_X3_welcome : GoodIn wsX5_guest wsX3_welcome := goodIn_r _ [23, 24, 25, 26, 27, 28, 29, 30, 38, 39, 40, 41, 42, 43, 44, 45, 46, 47, 48, 49, 50] (by decide +kernel) (by decide +kernel)
set_option maxRecDepth 20000 in
theorem gX5_guest_X3_welcome : GoodIn wsX5_guest (wsV RX5 94 RX3 yX3_welcome wsX3_welcome) := goodIn_app (goodIn_of _ (by decide +kernel)) ggX5_guest_X3_welcome
theorem dX5_guest_0 : decode cX5_guest 0 = .ok (.iload_n 1, 1) := by decide +kernel
theorem dX5_guest_1 : decode cX5_guest 1 = .ok (.invokestatic 86, 3) := by decide +kernel
theorem dX5_guest_4 : decode cX5_guest 4 = .ok (.ifCond .eq 10, 3) := by decide +kernel
theorem dX5_guest_7 : decode cX5_guest 7 = .ok (.iload_n 2, 1) := by decide +kernel
theorem dX5_guest_8 : decode cX5_guest 8 = .ok (.invokestatic 44, 3) := by decide +kernel
theorem dX5_guest_11 : decode cX5_guest 11 = .ok (.ifCond .ne 10, 3) := by decide +kernel
theorem dX5_guest_14 : decode cX5_guest 14 = .ok (.aload_n 0, 1) := by decide +kernel
theorem dX5_guest_15 : decode cX5_guest 15 = .ok (.ldc 52, 2) := by decide +kernel
theorem dX5_guest_17 : decode cX5_guest 17 = .ok (.invokevirtual 53, 3) := by decide +kernel
theorem dX5_guest_20 : decode cX5_guest 20 = .ok (.ireturn, 1) := by decide +kernel
theorem dX5_guest_21 : decode cX5_guest 21 = .ok (.aload_n 0, 1) := by decide +kernel
theorem dX5_guest_22 : decode cX5_guest 22 = .ok (.getfield 10, 3) := by decide +kernel
theorem dX5_guest_25 : decode cX5_guest 25 = .ok (.getfield 89, 3) := by decide +kernel
theorem dX5_guest_28 : decode cX5_guest 28 = .ok (.bipush 8, 2) := by decide +kernel
theorem dX5_guest_30 : decode cX5_guest 30 = .ok (.if_icmp .lt 10, 3) := by decide +kernel
theorem dX5_guest_33 : decode cX5_guest 33 = .ok (.aload_n 0, 1) := by decide +kernel
theorem dX5_guest_34 : decode cX5_guest 34 = .ok (.ldc 92, 2) := by decide +kernel
theorem dX5_guest_36 : decode cX5_guest 36 = .ok (.invokevirtual 53, 3) := by decide +kernel
theorem dX5_guest_39 : decode cX5_guest 39 = .ok (.ireturn, 1) := by decide +kernel
theorem dX5_guest_40 : decode cX5_guest 40 = .ok (.aload_n 0, 1) := by decide +kernel
theorem dX5_guest_41 : decode cX5_guest 41 = .ok (.getfield 10, 3) := by decide +kernel
theorem dX5_guest_44 : decode cX5_guest 44 = .ok (.getfield 66, 3) := by decide +kernel
theorem dX5_guest_47 : decode cX5_guest 47 = .ok (.iload_n 2, 1) := by decide +kernel
theorem dX5_guest_48 : decode cX5_guest 48 = .ok (.iaload, 1) := by decide +kernel
theorem dX5_guest_49 : decode cX5_guest 49 = .ok (.iconst (-1), 1) := by decide +kernel
theorem dX5_guest_50 : decode cX5_guest 50 = .ok (.if_icmp .eq 10, 3) := by decide +kernel
theorem dX5_guest_53 : decode cX5_guest 53 = .ok (.aload_n 0, 1) := by decide +kernel
theorem dX5_guest_54 : decode cX5_guest 54 = .ok (.ldc 93, 2) := by decide +kernel
theorem dX5_guest_56 : decode cX5_guest 56 = .ok (.invokevirtual 53, 3) := by decide +kernel
theorem dX5_guest_59 : decode cX5_guest 59 = .ok (.ireturn, 1) := by decide +kernel
theorem dX5_guest_60 : decode cX5_guest 60 = .ok (.aload_n 0, 1) := by decide +kernel
theorem dX5_guest_61 : decode cX5_guest 61 = .ok (.getfield 10, 3) := by decide +kernel
theorem dX5_guest_64 : decode cX5_guest 64 = .ok (.iload_n 1, 1) := by decide +kernel
theorem dX5_guest_65 : decode cX5_guest 65 = .ok (.iload_n 2, 1) := by decide +kernel
theorem dX5_guest_66 : decode cX5_guest 66 = .ok (.invokevirtual 94, 3) := by decide +kernel
theorem dX5_guest_69 : decode cX5_guest 69 = .ok (.ireturn, 1) := by decide +kernel
set_option maxRecDepth 20000 in
theorem ggX5_of_X3_has : GoodIn wsX5_of wsX3_has := goodIn_r _ [12, 13, 76, 77, 78, 79, 80, 81, 82, 83, 84, 85, 86, 87, 88] (by decide +kernel) (by decide +kernel)
set_option maxRecDepth 20000 in
theorem gX5_of_X3_has : GoodIn wsX5_of (wsV RX5 98 RX3 yX3_has wsX3_has) := goodIn_app (goodIn_of _ (by decide +kernel)) ggX5_of_X3_has
set_option maxRecDepth 20000 in
theorem ggX5_of_X5_found : GoodIn wsX5_of wsX5_found := goodIn_r _ [18, 2, 19, 69, 70, 71, 72, 73, 74, 75] (by decide +kernel) (by decide +kernel)
set_option maxRecDepth 20000 in
theorem gX5_of_X5_found : GoodIn wsX5_of (wsV RX5 53 RX5 yX5_found wsX5_found) := goodIn_app (goodIn_of _ (by decide +kernel)) ggX5_of_X5_found
set_option maxRecDepth 20000 in
theorem ggX5_of_X3_feeling : GoodIn wsX5_of wsX3_feeling := goodIn_r _ [23, 24, 25, 26, 27, 28, 29, 30, 31, 11, 32, 33, 34, 35, 36, 37, 38, 39, 40, 41, 42, 43, 44, 45, 46, 47, 48, 49, 50, 51, 52, 53, 76, 77, 78, 79, 80, 81, 82, 83, 84, 85, 86, 87, 88] (by decide +kernel) (by decide +kernel)
set_option maxRecDepth 20000 in
theorem gX5_of_X3_feeling : GoodIn wsX5_of (wsV RX5 116 RX3 yX3_feeling wsX3_feeling) := goodIn_app (goodIn_of _ (by decide +kernel)) ggX5_of_X3_feeling
set_option maxRecDepth 20000 in
theorem ggX5_of_X3_caught : GoodIn wsX5_of wsX3_caught := goodIn_r _ [57, 24, 34, 35, 11, 36, 58, 59, 60, 61, 33, 25, 26, 27, 62, 63, 52, 64, 40, 41, 42, 76, 77, 78, 79, 80, 81, 82, 83, 84, 85, 86, 87, 88] (by decide +kernel) (by decide +kernel)
set_option maxRecDepth 20000 in
theorem gX5_of_X3_caught : GoodIn wsX5_of (wsV RX5 119 RX3 yX3_caught wsX3_caught) := goodIn_app (goodIn_of _ (by decide +kernel)) ggX5_of_X3_caught
set_option maxRecDepth 20000 in
theorem ggX5_of_X1_soreBelow : GoodIn wsX5_of wsX1_soreBelow := goodIn_r _ [67] (by decide +kernel) (by decide +kernel)
set_option maxRecDepth 20000 in
theorem gX5_of_X1_soreBelow : GoodIn wsX5_of (va_wsS RX5 122 yX1_soreBelow wsX1_soreBelow) := goodIn_app (goodIn_of _ (by decide +kernel)) ggX5_of_X1_soreBelow
set_option maxRecDepth 20000 in
theorem ggX5_of_X3_neighbours : GoodIn wsX5_of wsX3_neighbours := goodIn_r _ [32, 33, 24, 34, 35, 11, 36, 37, 38, 39, 40, 41, 42, 76, 77, 78, 79, 80, 81, 82, 83, 84, 85, 86, 87, 88] (by decide +kernel) (by decide +kernel)
set_option maxRecDepth 20000 in
theorem gX5_of_X3_neighbours : GoodIn wsX5_of (wsV RX5 127 RX3 yX3_neighbours wsX3_neighbours) := goodIn_app (goodIn_of _ (by decide +kernel)) ggX5_of_X3_neighbours
theorem dX5_of_0 : decode cX5_of 0 = .ok (.aload_n 0, 1) := by decide +kernel
theorem dX5_of_1 : decode cX5_of 1 = .ok (.getfield 10, 3) := by decide +kernel
theorem dX5_of_4 : decode cX5_of 4 = .ok (.iload_n 1, 1) := by decide +kernel
theorem dX5_of_5 : decode cX5_of 5 = .ok (.invokevirtual 98, 3) := by decide +kernel
theorem dX5_of_8 : decode cX5_of 8 = .ok (.ifCond .ne 10, 3) := by decide +kernel
theorem dX5_of_11 : decode cX5_of 11 = .ok (.aload_n 0, 1) := by decide +kernel
theorem dX5_of_12 : decode cX5_of 12 = .ok (.ldc 52, 2) := by decide +kernel
theorem dX5_of_14 : decode cX5_of 14 = .ok (.invokevirtual 53, 3) := by decide +kernel
theorem dX5_of_17 : decode cX5_of 17 = .ok (.ireturn, 1) := by decide +kernel
theorem dX5_of_18 : decode cX5_of 18 = .ok (.iload_n 2, 1) := by decide +kernel
theorem dX5_of_19 : decode cX5_of 19 = .ok (.tableswitch 151 0 8 #[49, 59, 69, 82, 92, 102, 114, 126, 142], 49) := by decide +kernel
theorem dX5_of_68 : decode cX5_of 68 = .ok (.aload_n 0, 1) := by decide +kernel
theorem dX5_of_69 : decode cX5_of 69 = .ok (.getfield 10, 3) := by decide +kernel
theorem dX5_of_72 : decode cX5_of 72 = .ok (.getfield 101, 3) := by decide +kernel
theorem dX5_of_75 : decode cX5_of 75 = .ok (.iload_n 1, 1) := by decide +kernel
theorem dX5_of_76 : decode cX5_of 76 = .ok (.iaload, 1) := by decide +kernel
theorem dX5_of_77 : decode cX5_of 77 = .ok (.ireturn, 1) := by decide +kernel
theorem dX5_of_78 : decode cX5_of 78 = .ok (.aload_n 0, 1) := by decide +kernel
theorem dX5_of_79 : decode cX5_of 79 = .ok (.getfield 10, 3) := by decide +kernel
theorem dX5_of_82 : decode cX5_of 82 = .ok (.getfield 104, 3) := by decide +kernel
theorem dX5_of_85 : decode cX5_of 85 = .ok (.iload_n 1, 1) := by decide +kernel
theorem dX5_of_86 : decode cX5_of 86 = .ok (.iaload, 1) := by decide +kernel
theorem dX5_of_87 : decode cX5_of 87 = .ok (.ireturn, 1) := by decide +kernel
theorem dX5_of_88 : decode cX5_of 88 = .ok (.bipush 100, 2) := by decide +kernel
theorem dX5_of_90 : decode cX5_of 90 = .ok (.aload_n 0, 1) := by decide +kernel
theorem dX5_of_91 : decode cX5_of 91 = .ok (.getfield 10, 3) := by decide +kernel
theorem dX5_of_94 : decode cX5_of 94 = .ok (.getfield 107, 3) := by decide +kernel
theorem dX5_of_97 : decode cX5_of 97 = .ok (.iload_n 1, 1) := by decide +kernel
theorem dX5_of_98 : decode cX5_of 98 = .ok (.iaload, 1) := by decide +kernel
theorem dX5_of_99 : decode cX5_of 99 = .ok (.iadd, 1) := by decide +kernel
theorem dX5_of_100 : decode cX5_of 100 = .ok (.ireturn, 1) := by decide +kernel
theorem dX5_of_101 : decode cX5_of 101 = .ok (.aload_n 0, 1) := by decide +kernel
theorem dX5_of_102 : decode cX5_of 102 = .ok (.getfield 10, 3) := by decide +kernel
theorem dX5_of_105 : decode cX5_of 105 = .ok (.getfield 110, 3) := by decide +kernel
theorem dX5_of_108 : decode cX5_of 108 = .ok (.iload_n 1, 1) := by decide +kernel
theorem dX5_of_109 : decode cX5_of 109 = .ok (.iaload, 1) := by decide +kernel
theorem dX5_of_110 : decode cX5_of 110 = .ok (.ireturn, 1) := by decide +kernel
theorem dX5_of_111 : decode cX5_of 111 = .ok (.aload_n 0, 1) := by decide +kernel
theorem dX5_of_112 : decode cX5_of 112 = .ok (.getfield 10, 3) := by decide +kernel
theorem dX5_of_115 : decode cX5_of 115 = .ok (.getfield 113, 3) := by decide +kernel
theorem dX5_of_118 : decode cX5_of 118 = .ok (.iload_n 1, 1) := by decide +kernel
theorem dX5_of_119 : decode cX5_of 119 = .ok (.iaload, 1) := by decide +kernel
theorem dX5_of_120 : decode cX5_of 120 = .ok (.ireturn, 1) := by decide +kernel
theorem dX5_of_121 : decode cX5_of 121 = .ok (.bipush 100, 2) := by decide +kernel
theorem dX5_of_123 : decode cX5_of 123 = .ok (.aload_n 0, 1) := by decide +kernel
theorem dX5_of_124 : decode cX5_of 124 = .ok (.getfield 10, 3) := by decide +kernel
theorem dX5_of_127 : decode cX5_of 127 = .ok (.iload_n 1, 1) := by decide +kernel
theorem dX5_of_128 : decode cX5_of 128 = .ok (.invokevirtual 116, 3) := by decide +kernel
theorem dX5_of_131 : decode cX5_of 131 = .ok (.iadd, 1) := by decide +kernel
theorem dX5_of_132 : decode cX5_of 132 = .ok (.ireturn, 1) := by decide +kernel
theorem dX5_of_133 : decode cX5_of 133 = .ok (.bipush 100, 2) := by decide +kernel
theorem dX5_of_135 : decode cX5_of 135 = .ok (.aload_n 0, 1) := by decide +kernel
theorem dX5_of_136 : decode cX5_of 136 = .ok (.getfield 10, 3) := by decide +kernel
theorem dX5_of_139 : decode cX5_of 139 = .ok (.iload_n 1, 1) := by decide +kernel
theorem dX5_of_140 : decode cX5_of 140 = .ok (.invokevirtual 119, 3) := by decide +kernel
theorem dX5_of_143 : decode cX5_of 143 = .ok (.iadd, 1) := by decide +kernel
theorem dX5_of_144 : decode cX5_of 144 = .ok (.ireturn, 1) := by decide +kernel
theorem dX5_of_145 : decode cX5_of 145 = .ok (.bipush 100, 2) := by decide +kernel
theorem dX5_of_147 : decode cX5_of 147 = .ok (.aload_n 0, 1) := by decide +kernel
theorem dX5_of_148 : decode cX5_of 148 = .ok (.getfield 10, 3) := by decide +kernel
theorem dX5_of_151 : decode cX5_of 151 = .ok (.getfield 101, 3) := by decide +kernel
theorem dX5_of_154 : decode cX5_of 154 = .ok (.iload_n 1, 1) := by decide +kernel
theorem dX5_of_155 : decode cX5_of 155 = .ok (.iaload, 1) := by decide +kernel
theorem dX5_of_156 : decode cX5_of 156 = .ok (.invokestatic 122, 3) := by decide +kernel
theorem dX5_of_159 : decode cX5_of 159 = .ok (.iadd, 1) := by decide +kernel
theorem dX5_of_160 : decode cX5_of 160 = .ok (.ireturn, 1) := by decide +kernel
theorem dX5_of_161 : decode cX5_of 161 = .ok (.aload_n 0, 1) := by decide +kernel
theorem dX5_of_162 : decode cX5_of 162 = .ok (.getfield 10, 3) := by decide +kernel
theorem dX5_of_165 : decode cX5_of 165 = .ok (.iload_n 1, 1) := by decide +kernel
theorem dX5_of_166 : decode cX5_of 166 = .ok (.invokevirtual 127, 3) := by decide +kernel
theorem dX5_of_169 : decode cX5_of 169 = .ok (.ireturn, 1) := by decide +kernel
theorem dX5_of_170 : decode cX5_of 170 = .ok (.aload_n 0, 1) := by decide +kernel
theorem dX5_of_171 : decode cX5_of 171 = .ok (.ldc 52, 2) := by decide +kernel
theorem dX5_of_173 : decode cX5_of 173 = .ok (.invokevirtual 53, 3) := by decide +kernel
theorem dX5_of_176 : decode cX5_of 176 = .ok (.ireturn, 1) := by decide +kernel
set_option maxRecDepth 20000 in
theorem ggX5_set_X3_has : GoodIn wsX5_set wsX3_has := goodIn_r _ [10, 11, 28, 29, 30, 31, 32, 33, 34, 35, 36, 37, 38, 39, 40] (by decide +kernel) (by decide +kernel)
set_option maxRecDepth 20000 in
theorem gX5_set_X3_has : GoodIn wsX5_set (wsV RX5 98 RX3 yX3_has wsX3_has) := goodIn_app (goodIn_of _ (by decide +kernel)) ggX5_set_X3_has
set_option maxRecDepth 20000 in
theorem ggX5_set_X5_found : GoodIn wsX5_set wsX5_found := goodIn_r _ [16, 2, 17, 21, 22, 23, 24, 25, 26, 27] (by decide +kernel) (by decide +kernel)
set_option maxRecDepth 20000 in
theorem gX5_set_X5_found : GoodIn wsX5_set (wsV RX5 53 RX5 yX5_found wsX5_found) := goodIn_app (goodIn_of _ (by decide +kernel)) ggX5_set_X5_found
set_option maxRecDepth 20000 in
theorem ggX5_set_X5_within : GoodIn wsX5_set wsX5_within := goodIn_r _ [20] (by decide +kernel) (by decide +kernel)
set_option maxRecDepth 20000 in
theorem gX5_set_X5_within : GoodIn wsX5_set (va_wsS RX5 48 yX5_within wsX5_within) := goodIn_app (goodIn_of _ (by decide +kernel)) ggX5_set_X5_within
theorem dX5_set_0 : decode cX5_set 0 = .ok (.aload_n 0, 1) := by decide +kernel
theorem dX5_set_1 : decode cX5_set 1 = .ok (.getfield 10, 3) := by decide +kernel
theorem dX5_set_4 : decode cX5_set 4 = .ok (.iload_n 1, 1) := by decide +kernel
theorem dX5_set_5 : decode cX5_set 5 = .ok (.invokevirtual 98, 3) := by decide +kernel
theorem dX5_set_8 : decode cX5_set 8 = .ok (.ifCond .eq 13, 3) := by decide +kernel
theorem dX5_set_11 : decode cX5_set 11 = .ok (.iload_n 2, 1) := by decide +kernel
theorem dX5_set_12 : decode cX5_set 12 = .ok (.iconst 2, 1) := by decide +kernel
theorem dX5_set_13 : decode cX5_set 13 = .ok (.if_icmp .lt 8, 3) := by decide +kernel
theorem dX5_set_16 : decode cX5_set 16 = .ok (.iload_n 2, 1) := by decide +kernel
theorem dX5_set_17 : decode cX5_set 17 = .ok (.iconst 4, 1) := by decide +kernel
theorem dX5_set_18 : decode cX5_set 18 = .ok (.if_icmp .le 10, 3) := by decide +kernel
theorem dX5_set_21 : decode cX5_set 21 = .ok (.aload_n 0, 1) := by decide +kernel
theorem dX5_set_22 : decode cX5_set 22 = .ok (.ldc 52, 2) := by decide +kernel
theorem dX5_set_24 : decode cX5_set 24 = .ok (.invokevirtual 53, 3) := by decide +kernel
theorem dX5_set_27 : decode cX5_set 27 = .ok (.ireturn, 1) := by decide +kernel
theorem dX5_set_28 : decode cX5_set 28 = .ok (.iload_n 2, 1) := by decide +kernel
theorem dX5_set_29 : decode cX5_set 29 = .ok (.iconst 2, 1) := by decide +kernel
theorem dX5_set_30 : decode cX5_set 30 = .ok (.if_icmp .ne 17, 3) := by decide +kernel
theorem dX5_set_33 : decode cX5_set 33 = .ok (.iload_n 3, 1) := by decide +kernel
theorem dX5_set_34 : decode cX5_set 34 = .ok (.bipush (-99), 2) := by decide +kernel
theorem dX5_set_36 : decode cX5_set 36 = .ok (.bipush 99, 2) := by decide +kernel
theorem dX5_set_38 : decode cX5_set 38 = .ok (.invokestatic 48, 3) := by decide +kernel
theorem dX5_set_41 : decode cX5_set 41 = .ok (.ifCond .ne 24, 3) := by decide +kernel
theorem dX5_set_44 : decode cX5_set 44 = .ok (.goto 14, 3) := by decide +kernel
theorem dX5_set_47 : decode cX5_set 47 = .ok (.iload_n 3, 1) := by decide +kernel
theorem dX5_set_48 : decode cX5_set 48 = .ok (.iconst 0, 1) := by decide +kernel
theorem dX5_set_49 : decode cX5_set 49 = .ok (.sipush 9999, 3) := by decide +kernel
theorem dX5_set_52 : decode cX5_set 52 = .ok (.invokestatic 48, 3) := by decide +kernel
theorem dX5_set_55 : decode cX5_set 55 = .ok (.ifCond .ne 10, 3) := by decide +kernel
theorem dX5_set_58 : decode cX5_set 58 = .ok (.aload_n 0, 1) := by decide +kernel
theorem dX5_set_59 : decode cX5_set 59 = .ok (.ldc 52, 2) := by decide +kernel
theorem dX5_set_61 : decode cX5_set 61 = .ok (.invokevirtual 53, 3) := by decide +kernel
theorem dX5_set_64 : decode cX5_set 64 = .ok (.ireturn, 1) := by decide +kernel
theorem dX5_set_65 : decode cX5_set 65 = .ok (.iload_n 2, 1) := by decide +kernel
theorem dX5_set_66 : decode cX5_set 66 = .ok (.iconst 2, 1) := by decide +kernel
theorem dX5_set_67 : decode cX5_set 67 = .ok (.if_icmp .ne 13, 3) := by decide +kernel
theorem dX5_set_70 : decode cX5_set 70 = .ok (.aload_n 0, 1) := by decide +kernel
theorem dX5_set_71 : decode cX5_set 71 = .ok (.getfield 10, 3) := by decide +kernel
theorem dX5_set_74 : decode cX5_set 74 = .ok (.getfield 107, 3) := by decide +kernel
theorem dX5_set_77 : decode cX5_set 77 = .ok (.goto 25, 3) := by decide +kernel
theorem dX5_set_80 : decode cX5_set 80 = .ok (.iload_n 2, 1) := by decide +kernel
theorem dX5_set_81 : decode cX5_set 81 = .ok (.iconst 3, 1) := by decide +kernel
theorem dX5_set_82 : decode cX5_set 82 = .ok (.if_icmp .ne 13, 3) := by decide +kernel
theorem dX5_set_85 : decode cX5_set 85 = .ok (.aload_n 0, 1) := by decide +kernel
theorem dX5_set_86 : decode cX5_set 86 = .ok (.getfield 10, 3) := by decide +kernel
theorem dX5_set_89 : decode cX5_set 89 = .ok (.getfield 110, 3) := by decide +kernel
theorem dX5_set_92 : decode cX5_set 92 = .ok (.goto 10, 3) := by decide +kernel
theorem dX5_set_95 : decode cX5_set 95 = .ok (.aload_n 0, 1) := by decide +kernel
theorem dX5_set_96 : decode cX5_set 96 = .ok (.getfield 10, 3) := by decide +kernel
theorem dX5_set_99 : decode cX5_set 99 = .ok (.getfield 113, 3) := by decide +kernel
theorem dX5_set_102 : decode cX5_set 102 = .ok (.astore 4, 2) := by decide +kernel
theorem dX5_set_104 : decode cX5_set 104 = .ok (.aload 4, 2) := by decide +kernel
theorem dX5_set_106 : decode cX5_set 106 = .ok (.iload_n 1, 1) := by decide +kernel
theorem dX5_set_107 : decode cX5_set 107 = .ok (.iaload, 1) := by decide +kernel
theorem dX5_set_108 : decode cX5_set 108 = .ok (.istore 5, 2) := by decide +kernel
theorem dX5_set_110 : decode cX5_set 110 = .ok (.aload 4, 2) := by decide +kernel
theorem dX5_set_112 : decode cX5_set 112 = .ok (.iload_n 1, 1) := by decide +kernel
theorem dX5_set_113 : decode cX5_set 113 = .ok (.iload_n 3, 1) := by decide +kernel
theorem dX5_set_114 : decode cX5_set 114 = .ok (.iastore, 1) := by decide +kernel
theorem dX5_set_115 : decode cX5_set 115 = .ok (.iload 5, 2) := by decide +kernel
theorem dX5_set_117 : decode cX5_set 117 = .ok (.ireturn, 1) := by decide +kernel
set_option maxRecDepth 20000 in
theorem ggX5_seat_X3_has : GoodIn wsX5_seat wsX3_has := goodIn_r _ [9, 10, 37, 38, 39, 40, 41, 42, 43, 44, 45, 46, 47, 48, 49] (by decide +kernel) (by decide +kernel)
set_option maxRecDepth 20000 in
theorem gX5_seat_X3_has : GoodIn wsX5_seat (wsV RX5 98 RX3 yX3_has wsX3_has) := goodIn_app (goodIn_of _ (by decide +kernel)) ggX5_seat_X3_has
set_option maxRecDepth 20000 in
theorem ggX5_seat_X5_isPlace : GoodIn wsX5_seat wsX5_isPlace := goodIn_r _ [14] (by decide +kernel) (by decide +kernel)
set_option maxRecDepth 20000 in
theorem gX5_seat_X5_isPlace : GoodIn wsX5_seat (va_wsS RX5 44 yX5_isPlace wsX5_isPlace) := goodIn_app (goodIn_of _ (by decide +kernel)) ggX5_seat_X5_isPlace
set_option maxRecDepth 20000 in
theorem ggX5_seat_X5_found : GoodIn wsX5_seat wsX5_found := goodIn_r _ [18, 2, 19, 30, 31, 32, 33, 34, 35, 36] (by decide +kernel) (by decide +kernel)
set_option maxRecDepth 20000 in
theorem gX5_seat_X5_found : GoodIn wsX5_seat (wsV RX5 53 RX5 yX5_found wsX5_found) := goodIn_app (goodIn_of _ (by decide +kernel)) ggX5_seat_X5_found
set_option maxRecDepth 20000 in
theorem ggX5_seat_X3_freeFor : GoodIn wsX5_seat wsX3_freeFor := goodIn_r _ [23, 24, 37, 38, 39, 40, 41, 42, 43, 44, 45, 46, 47, 48, 49] (by decide +kernel) (by decide +kernel)
set_option maxRecDepth 20000 in
theorem gX5_seat_X3_freeFor : GoodIn wsX5_seat (wsV RX5 130 RX3 yX3_freeFor wsX3_freeFor) := goodIn_app (goodIn_of _ (by decide +kernel)) ggX5_seat_X3_freeFor
set_option maxRecDepth 20000 in
theorem ggX5_seat_X3_move : GoodIn wsX5_seat wsX3_move := goodIn_r _ [28, 24, 29, 37, 38, 39, 40, 41, 42, 43, 44, 45, 46, 47, 48, 49] (by decide +kernel) (by decide +kernel)
set_option maxRecDepth 20000 in
theorem gX5_seat_X3_move : GoodIn wsX5_seat (wsV RX5 134 RX3 yX3_move wsX3_move) := goodIn_app (goodIn_of _ (by decide +kernel)) ggX5_seat_X3_move
theorem dX5_seat_0 : decode cX5_seat 0 = .ok (.aload_n 0, 1) := by decide +kernel
theorem dX5_seat_1 : decode cX5_seat 1 = .ok (.getfield 10, 3) := by decide +kernel
theorem dX5_seat_4 : decode cX5_seat 4 = .ok (.iload_n 1, 1) := by decide +kernel
theorem dX5_seat_5 : decode cX5_seat 5 = .ok (.invokevirtual 98, 3) := by decide +kernel
theorem dX5_seat_8 : decode cX5_seat 8 = .ok (.ifCond .eq 10, 3) := by decide +kernel
theorem dX5_seat_11 : decode cX5_seat 11 = .ok (.iload_n 2, 1) := by decide +kernel
theorem dX5_seat_12 : decode cX5_seat 12 = .ok (.invokestatic 44, 3) := by decide +kernel
theorem dX5_seat_15 : decode cX5_seat 15 = .ok (.ifCond .ne 10, 3) := by decide +kernel
theorem dX5_seat_18 : decode cX5_seat 18 = .ok (.aload_n 0, 1) := by decide +kernel
theorem dX5_seat_19 : decode cX5_seat 19 = .ok (.ldc 52, 2) := by decide +kernel
theorem dX5_seat_21 : decode cX5_seat 21 = .ok (.invokevirtual 53, 3) := by decide +kernel
theorem dX5_seat_24 : decode cX5_seat 24 = .ok (.ireturn, 1) := by decide +kernel
theorem dX5_seat_25 : decode cX5_seat 25 = .ok (.aload_n 0, 1) := by decide +kernel
theorem dX5_seat_26 : decode cX5_seat 26 = .ok (.getfield 10, 3) := by decide +kernel
theorem dX5_seat_29 : decode cX5_seat 29 = .ok (.iload_n 1, 1) := by decide +kernel
theorem dX5_seat_30 : decode cX5_seat 30 = .ok (.iload_n 2, 1) := by decide +kernel
theorem dX5_seat_31 : decode cX5_seat 31 = .ok (.invokevirtual 130, 3) := by decide +kernel
theorem dX5_seat_34 : decode cX5_seat 34 = .ok (.ifCond .ne 10, 3) := by decide +kernel
theorem dX5_seat_37 : decode cX5_seat 37 = .ok (.aload_n 0, 1) := by decide +kernel
theorem dX5_seat_38 : decode cX5_seat 38 = .ok (.ldc 93, 2) := by decide +kernel
theorem dX5_seat_40 : decode cX5_seat 40 = .ok (.invokevirtual 53, 3) := by decide +kernel
theorem dX5_seat_43 : decode cX5_seat 43 = .ok (.ireturn, 1) := by decide +kernel
theorem dX5_seat_44 : decode cX5_seat 44 = .ok (.aload_n 0, 1) := by decide +kernel
theorem dX5_seat_45 : decode cX5_seat 45 = .ok (.getfield 10, 3) := by decide +kernel
theorem dX5_seat_48 : decode cX5_seat 48 = .ok (.getfield 104, 3) := by decide +kernel
theorem dX5_seat_51 : decode cX5_seat 51 = .ok (.iload_n 1, 1) := by decide +kernel
theorem dX5_seat_52 : decode cX5_seat 52 = .ok (.iaload, 1) := by decide +kernel
theorem dX5_seat_53 : decode cX5_seat 53 = .ok (.istore_n 3, 1) := by decide +kernel
theorem dX5_seat_54 : decode cX5_seat 54 = .ok (.aload_n 0, 1) := by decide +kernel
theorem dX5_seat_55 : decode cX5_seat 55 = .ok (.getfield 10, 3) := by decide +kernel
theorem dX5_seat_58 : decode cX5_seat 58 = .ok (.iload_n 1, 1) := by decide +kernel
theorem dX5_seat_59 : decode cX5_seat 59 = .ok (.iload_n 2, 1) := by decide +kernel
theorem dX5_seat_60 : decode cX5_seat 60 = .ok (.invokevirtual 134, 3) := by decide +kernel
theorem dX5_seat_63 : decode cX5_seat 63 = .ok (.iload_n 3, 1) := by decide +kernel
theorem dX5_seat_64 : decode cX5_seat 64 = .ok (.ireturn, 1) := by decide +kernel
set_option maxRecDepth 20000 in
theorem ggX5_swap_X3_has : GoodIn wsX5_swap wsX3_has := goodIn_r _ [7, 8, 28, 29, 30, 31, 32, 33, 34, 35, 36, 37, 38, 39, 40] (by decide +kernel) (by decide +kernel)
set_option maxRecDepth 20000 in
theorem gX5_swap_X3_has : GoodIn wsX5_swap (wsV RX5 98 RX3 yX3_has wsX3_has) := goodIn_app (goodIn_of _ (by decide +kernel)) ggX5_swap_X3_has
set_option maxRecDepth 20000 in
theorem ggX5_swap_X5_found : GoodIn wsX5_swap wsX5_found := goodIn_r _ [13, 2, 14, 21, 22, 23, 24, 25, 26, 27] (by decide +kernel) (by decide +kernel)
set_option maxRecDepth 20000 in
theorem gX5_swap_X5_found : GoodIn wsX5_swap (wsV RX5 53 RX5 yX5_found wsX5_found) := goodIn_app (goodIn_of _ (by decide +kernel)) ggX5_swap_X5_found
set_option maxRecDepth 20000 in
theorem ggX5_swap_X3_exchange : GoodIn wsX5_swap wsX3_exchange := goodIn_r _ [18, 19, 20, 28, 29, 30, 31, 32, 33, 34, 35, 36, 37, 38, 39, 40] (by decide +kernel) (by decide +kernel)
set_option maxRecDepth 20000 in
theorem gX5_swap_X3_exchange : GoodIn wsX5_swap (wsV RX5 138 RX3 yX3_exchange wsX3_exchange) := goodIn_app (goodIn_of _ (by decide +kernel)) ggX5_swap_X3_exchange
theorem dX5_swap_0 : decode cX5_swap 0 = .ok (.aload_n 0, 1) := by decide +kernel
theorem dX5_swap_1 : decode cX5_swap 1 = .ok (.getfield 10, 3) := by decide +kernel
theorem dX5_swap_4 : decode cX5_swap 4 = .ok (.iload_n 1, 1) := by decide +kernel
theorem dX5_swap_5 : decode cX5_swap 5 = .ok (.invokevirtual 98, 3) := by decide +kernel
theorem dX5_swap_8 : decode cX5_swap 8 = .ok (.ifCond .eq 19, 3) := by decide +kernel
theorem dX5_swap_11 : decode cX5_swap 11 = .ok (.aload_n 0, 1) := by decide +kernel
theorem dX5_swap_12 : decode cX5_swap 12 = .ok (.getfield 10, 3) := by decide +kernel
theorem dX5_swap_15 : decode cX5_swap 15 = .ok (.iload_n 2, 1) := by decide +kernel
theorem dX5_swap_16 : decode cX5_swap 16 = .ok (.invokevirtual 98, 3) := by decide +kernel
theorem dX5_swap_19 : decode cX5_swap 19 = .ok (.ifCond .eq 8, 3) := by decide +kernel
theorem dX5_swap_22 : decode cX5_swap 22 = .ok (.iload_n 1, 1) := by decide +kernel
theorem dX5_swap_23 : decode cX5_swap 23 = .ok (.iload_n 2, 1) := by decide +kernel
theorem dX5_swap_24 : decode cX5_swap 24 = .ok (.if_icmp .ne 10, 3) := by decide +kernel
theorem dX5_swap_27 : decode cX5_swap 27 = .ok (.aload_n 0, 1) := by decide +kernel
theorem dX5_swap_28 : decode cX5_swap 28 = .ok (.ldc 52, 2) := by decide +kernel
theorem dX5_swap_30 : decode cX5_swap 30 = .ok (.invokevirtual 53, 3) := by decide +kernel
theorem dX5_swap_33 : decode cX5_swap 33 = .ok (.ireturn, 1) := by decide +kernel
theorem dX5_swap_34 : decode cX5_swap 34 = .ok (.aload_n 0, 1) := by decide +kernel
theorem dX5_swap_35 : decode cX5_swap 35 = .ok (.getfield 10, 3) := by decide +kernel
theorem dX5_swap_38 : decode cX5_swap 38 = .ok (.iload_n 1, 1) := by decide +kernel
theorem dX5_swap_39 : decode cX5_swap 39 = .ok (.iload_n 2, 1) := by decide +kernel
theorem dX5_swap_40 : decode cX5_swap 40 = .ok (.invokevirtual 138, 3) := by decide +kernel
theorem dX5_swap_43 : decode cX5_swap 43 = .ok (.iconst 1, 1) := by decide +kernel
theorem dX5_swap_44 : decode cX5_swap 44 = .ok (.ireturn, 1) := by decide +kernel
set_option maxRecDepth 20000 in
theorem ggX5_turn_X3_has : GoodIn wsX5_turn wsX3_has := goodIn_r _ [8, 9, 26, 27, 28, 29, 30, 31, 32, 33, 34, 35, 36, 37, 38] (by decide +kernel) (by decide +kernel)
set_option maxRecDepth 20000 in
theorem gX5_turn_X3_has : GoodIn wsX5_turn (wsV RX5 98 RX3 yX3_has wsX3_has) := goodIn_app (goodIn_of _ (by decide +kernel)) ggX5_turn_X3_has
set_option maxRecDepth 20000 in
theorem ggX5_turn_X5_isKind : GoodIn wsX5_turn wsX5_isKind := goodIn_r _ [13] (by decide +kernel) (by decide +kernel)
set_option maxRecDepth 20000 in
theorem gX5_turn_X5_isKind : GoodIn wsX5_turn (va_wsS RX5 86 yX5_isKind wsX5_isKind) := goodIn_app (goodIn_of _ (by decide +kernel)) ggX5_turn_X5_isKind
set_option maxRecDepth 20000 in
theorem ggX5_turn_X5_found : GoodIn wsX5_turn wsX5_found := goodIn_r _ [17, 2, 18, 19, 20, 21, 22, 23, 24, 25] (by decide +kernel) (by decide +kernel)
set_option maxRecDepth 20000 in
theorem gX5_turn_X5_found : GoodIn wsX5_turn (wsV RX5 53 RX5 yX5_found wsX5_found) := goodIn_app (goodIn_of _ (by decide +kernel)) ggX5_turn_X5_found
theorem dX5_turn_0 : decode cX5_turn 0 = .ok (.aload_n 0, 1) := by decide +kernel
theorem dX5_turn_1 : decode cX5_turn 1 = .ok (.getfield 10, 3) := by decide +kernel
theorem dX5_turn_4 : decode cX5_turn 4 = .ok (.iload_n 1, 1) := by decide +kernel
theorem dX5_turn_5 : decode cX5_turn 5 = .ok (.invokevirtual 98, 3) := by decide +kernel
theorem dX5_turn_8 : decode cX5_turn 8 = .ok (.ifCond .eq 10, 3) := by decide +kernel
theorem dX5_turn_11 : decode cX5_turn 11 = .ok (.iload_n 2, 1) := by decide +kernel
theorem dX5_turn_12 : decode cX5_turn 12 = .ok (.invokestatic 86, 3) := by decide +kernel
theorem dX5_turn_15 : decode cX5_turn 15 = .ok (.ifCond .ne 10, 3) := by decide +kernel
theorem dX5_turn_18 : decode cX5_turn 18 = .ok (.aload_n 0, 1) := by decide +kernel
theorem dX5_turn_19 : decode cX5_turn 19 = .ok (.ldc 52, 2) := by decide +kernel
theorem dX5_turn_21 : decode cX5_turn 21 = .ok (.invokevirtual 53, 3) := by decide +kernel
theorem dX5_turn_24 : decode cX5_turn 24 = .ok (.ireturn, 1) := by decide +kernel
theorem dX5_turn_25 : decode cX5_turn 25 = .ok (.aload_n 0, 1) := by decide +kernel
theorem dX5_turn_26 : decode cX5_turn 26 = .ok (.getfield 10, 3) := by decide +kernel
theorem dX5_turn_29 : decode cX5_turn 29 = .ok (.getfield 101, 3) := by decide +kernel
theorem dX5_turn_32 : decode cX5_turn 32 = .ok (.iload_n 1, 1) := by decide +kernel
theorem dX5_turn_33 : decode cX5_turn 33 = .ok (.iaload, 1) := by decide +kernel
theorem dX5_turn_34 : decode cX5_turn 34 = .ok (.istore_n 3, 1) := by decide +kernel
theorem dX5_turn_35 : decode cX5_turn 35 = .ok (.aload_n 0, 1) := by decide +kernel
theorem dX5_turn_36 : decode cX5_turn 36 = .ok (.getfield 10, 3) := by decide +kernel
theorem dX5_turn_39 : decode cX5_turn 39 = .ok (.getfield 101, 3) := by decide +kernel
theorem dX5_turn_42 : decode cX5_turn 42 = .ok (.iload_n 1, 1) := by decide +kernel
theorem dX5_turn_43 : decode cX5_turn 43 = .ok (.iload_n 2, 1) := by decide +kernel
theorem dX5_turn_44 : decode cX5_turn 44 = .ok (.iastore, 1) := by decide +kernel
theorem dX5_turn_45 : decode cX5_turn 45 = .ok (.iload_n 3, 1) := by decide +kernel
theorem dX5_turn_46 : decode cX5_turn 46 = .ok (.ireturn, 1) := by decide +kernel
set_option maxRecDepth 20000 in
theorem ggX5_as_X3_has : GoodIn wsX5_as wsX3_has := goodIn_r _ [10, 11, 35, 36, 37, 38, 39, 40, 41, 42, 43, 44, 45, 46, 47] (by decide +kernel) (by decide +kernel)
set_option maxRecDepth 20000 in
theorem gX5_as_X3_has : GoodIn wsX5_as (wsV RX5 98 RX3 yX3_has wsX3_has) := goodIn_app (goodIn_of _ (by decide +kernel)) ggX5_as_X3_has
set_option maxRecDepth 20000 in
theorem ggX5_as_X5_isKind : GoodIn wsX5_as wsX5_isKind := goodIn_r _ [15] (by decide +kernel) (by decide +kernel)
set_option maxRecDepth 20000 in
theorem gX5_as_X5_isKind : GoodIn wsX5_as (va_wsS RX5 86 yX5_isKind wsX5_isKind) := goodIn_app (goodIn_of _ (by decide +kernel)) ggX5_as_X5_isKind
set_option maxRecDepth 20000 in
theorem ggX5_as_X5_found : GoodIn wsX5_as wsX5_found := goodIn_r _ [19, 2, 20, 28, 29, 30, 31, 32, 33, 34] (by decide +kernel) (by decide +kernel)
set_option maxRecDepth 20000 in
theorem gX5_as_X5_found : GoodIn wsX5_as (wsV RX5 53 RX5 yX5_found wsX5_found) := goodIn_app (goodIn_of _ (by decide +kernel)) ggX5_as_X5_found
set_option maxRecDepth 20000 in
theorem ggX5_as_X1_isUnder : GoodIn wsX5_as wsX1_isUnder := goodIn_r _ [24, 25, 26, 23, 27] (by decide +kernel) (by decide +kernel)
set_option maxRecDepth 20000 in
theorem gX5_as_X1_isUnder : GoodIn wsX5_as (va_wsS RX5 141 yX1_isUnder wsX1_isUnder) := goodIn_app (goodIn_of _ (by decide +kernel)) ggX5_as_X1_isUnder
theorem dX5_as_0 : decode cX5_as 0 = .ok (.aload_n 0, 1) := by decide +kernel
theorem dX5_as_1 : decode cX5_as 1 = .ok (.getfield 10, 3) := by decide +kernel
theorem dX5_as_4 : decode cX5_as 4 = .ok (.iload_n 1, 1) := by decide +kernel
theorem dX5_as_5 : decode cX5_as 5 = .ok (.invokevirtual 98, 3) := by decide +kernel
theorem dX5_as_8 : decode cX5_as 8 = .ok (.ifCond .eq 10, 3) := by decide +kernel
theorem dX5_as_11 : decode cX5_as 11 = .ok (.iload_n 2, 1) := by decide +kernel
theorem dX5_as_12 : decode cX5_as 12 = .ok (.invokestatic 86, 3) := by decide +kernel
theorem dX5_as_15 : decode cX5_as 15 = .ok (.ifCond .ne 10, 3) := by decide +kernel
theorem dX5_as_18 : decode cX5_as 18 = .ok (.aload_n 0, 1) := by decide +kernel
theorem dX5_as_19 : decode cX5_as 19 = .ok (.ldc 52, 2) := by decide +kernel
theorem dX5_as_21 : decode cX5_as 21 = .ok (.invokevirtual 53, 3) := by decide +kernel
theorem dX5_as_24 : decode cX5_as 24 = .ok (.ireturn, 1) := by decide +kernel
theorem dX5_as_25 : decode cX5_as 25 = .ok (.aload_n 0, 1) := by decide +kernel
theorem dX5_as_26 : decode cX5_as 26 = .ok (.getfield 10, 3) := by decide +kernel
theorem dX5_as_29 : decode cX5_as 29 = .ok (.getfield 101, 3) := by decide +kernel
theorem dX5_as_32 : decode cX5_as 32 = .ok (.iload_n 1, 1) := by decide +kernel
theorem dX5_as_33 : decode cX5_as 33 = .ok (.iaload, 1) := by decide +kernel
theorem dX5_as_34 : decode cX5_as 34 = .ok (.iload_n 2, 1) := by decide +kernel
theorem dX5_as_35 : decode cX5_as 35 = .ok (.invokestatic 141, 3) := by decide +kernel
theorem dX5_as_38 : decode cX5_as 38 = .ok (.ifCond .ne 10, 3) := by decide +kernel
theorem dX5_as_41 : decode cX5_as 41 = .ok (.aload_n 0, 1) := by decide +kernel
theorem dX5_as_42 : decode cX5_as 42 = .ok (.ldc 144, 2) := by decide +kernel
theorem dX5_as_44 : decode cX5_as 44 = .ok (.invokevirtual 53, 3) := by decide +kernel
theorem dX5_as_47 : decode cX5_as 47 = .ok (.ireturn, 1) := by decide +kernel
theorem dX5_as_48 : decode cX5_as 48 = .ok (.bipush 100, 2) := by decide +kernel
theorem dX5_as_50 : decode cX5_as 50 = .ok (.aload_n 0, 1) := by decide +kernel
theorem dX5_as_51 : decode cX5_as 51 = .ok (.getfield 10, 3) := by decide +kernel
theorem dX5_as_54 : decode cX5_as 54 = .ok (.getfield 107, 3) := by decide +kernel
theorem dX5_as_57 : decode cX5_as 57 = .ok (.iload_n 1, 1) := by decide +kernel
theorem dX5_as_58 : decode cX5_as 58 = .ok (.iaload, 1) := by decide +kernel
theorem dX5_as_59 : decode cX5_as 59 = .ok (.iadd, 1) := by decide +kernel
theorem dX5_as_60 : decode cX5_as 60 = .ok (.ireturn, 1) := by decide +kernel
set_option maxRecDepth 20000 in
theorem ggX5_courses_X5_within : GoodIn wsX5_courses wsX5_within := goodIn_r _ [9] (by decide +kernel) (by decide +kernel)
set_option maxRecDepth 20000 in
theorem gX5_courses_X5_within : GoodIn wsX5_courses (va_wsS RX5 48 yX5_within wsX5_within) := goodIn_app (goodIn_of _ (by decide +kernel)) ggX5_courses_X5_within
set_option maxRecDepth 20000 in
theorem ggX5_courses_X5_found : GoodIn wsX5_courses wsX5_found := goodIn_r _ [13, 1, 14, 106, 107, 108, 109, 110, 111, 112] (by decide +kernel) (by decide +kernel)
set_option maxRecDepth 20000 in
theorem gX5_courses_X5_found : GoodIn wsX5_courses (wsV RX5 53 RX5 yX5_found wsX5_found) := goodIn_app (goodIn_of _ (by decide +kernel)) ggX5_courses_X5_found
set_option maxRecDepth 20000 in
theorem ggX5_courses_X3_serve : GoodIn wsX5_courses wsX3_serve := goodIn_r _ [19, 20, 21, 22, 18, 23, 24, 25, 26, 27, 28, 29, 30, 31, 32, 33, 34, 35, 36, 37, 38, 39, 40, 41, 42, 43, 44, 45, 46, 47, 48, 49, 50, 51, 52, 53, 54, 55, 56, 57, 58, 59, 60, 61, 62, 63, 64, 65, 66, 67, 68, 69, 70, 71, 72, 73, 74, 75, 76, 77, 78, 79, 80, 81, 82, 83, 84, 85, 86, 87, 88, 89, 90, 91, 92, 93, 94, 95, 96, 97, 98, 99, 100, 101, 102, 103, 104, 113, 114, 115, 116, 117, 118, 119, 120, 121, 122, 123, 124, 125] (by decide +kernel) (by decide +kernel)
set_option maxRecDepth 20000 in
theorem gX5_courses_X3_serve : GoodIn wsX5_courses (wsV RX5 146 RX3 yX3_serve wsX3_serve) := goodIn_app (goodIn_of _ (by decide +kernel)) ggX5_courses_X3_serve
set_option maxRecDepth 20000 in
theorem ggX5_courses_X3_soreSet : GoodIn wsX5_courses wsX3_soreSet := goodIn_r _ [101, 24, 76, 32, 102, 103, 59, 104, 113, 114, 115, 116, 117, 118, 119, 120, 121, 122, 123, 124, 125] (by decide +kernel) (by decide +kernel)
set_option maxRecDepth 20000 in
theorem gX5_courses_X3_soreSet : GoodIn wsX5_courses (wsV RX5 73 RX3 yX3_soreSet wsX3_soreSet) := goodIn_app (goodIn_of _ (by decide +kernel)) ggX5_courses_X3_soreSet
theorem dX5_courses_0 : decode cX5_courses 0 = .ok (.iload_n 1, 1) := by decide +kernel
theorem dX5_courses_1 : decode cX5_courses 1 = .ok (.iconst 1, 1) := by decide +kernel
theorem dX5_courses_2 : decode cX5_courses 2 = .ok (.bipush 60, 2) := by decide +kernel
theorem dX5_courses_4 : decode cX5_courses 4 = .ok (.invokestatic 48, 3) := by decide +kernel
theorem dX5_courses_7 : decode cX5_courses 7 = .ok (.ifCond .ne 10, 3) := by decide +kernel
theorem dX5_courses_10 : decode cX5_courses 10 = .ok (.aload_n 0, 1) := by decide +kernel
theorem dX5_courses_11 : decode cX5_courses 11 = .ok (.ldc 52, 2) := by decide +kernel
theorem dX5_courses_13 : decode cX5_courses 13 = .ok (.invokevirtual 53, 3) := by decide +kernel
theorem dX5_courses_16 : decode cX5_courses 16 = .ok (.ireturn, 1) := by decide +kernel
theorem dX5_courses_17 : decode cX5_courses 17 = .ok (.aload_n 0, 1) := by decide +kernel
theorem dX5_courses_18 : decode cX5_courses 18 = .ok (.getfield 10, 3) := by decide +kernel
theorem dX5_courses_21 : decode cX5_courses 21 = .ok (.getfield 69, 3) := by decide +kernel
theorem dX5_courses_24 : decode cX5_courses 24 = .ok (.iload_n 1, 1) := by decide +kernel
theorem dX5_courses_25 : decode cX5_courses 25 = .ok (.iadd, 1) := by decide +kernel
theorem dX5_courses_26 : decode cX5_courses 26 = .ok (.ldc 145, 2) := by decide +kernel
theorem dX5_courses_28 : decode cX5_courses 28 = .ok (.if_icmp .le 10, 3) := by decide +kernel
theorem dX5_courses_31 : decode cX5_courses 31 = .ok (.aload_n 0, 1) := by decide +kernel
theorem dX5_courses_32 : decode cX5_courses 32 = .ok (.ldc 93, 2) := by decide +kernel
theorem dX5_courses_34 : decode cX5_courses 34 = .ok (.invokevirtual 53, 3) := by decide +kernel
theorem dX5_courses_37 : decode cX5_courses 37 = .ok (.ireturn, 1) := by decide +kernel
theorem dX5_courses_38 : decode cX5_courses 38 = .ok (.aload_n 0, 1) := by decide +kernel
theorem dX5_courses_39 : decode cX5_courses 39 = .ok (.getfield 10, 3) := by decide +kernel
theorem dX5_courses_42 : decode cX5_courses 42 = .ok (.iload_n 1, 1) := by decide +kernel
theorem dX5_courses_43 : decode cX5_courses 43 = .ok (.invokevirtual 146, 3) := by decide +kernel
theorem dX5_courses_46 : decode cX5_courses 46 = .ok (.aload_n 0, 1) := by decide +kernel
theorem dX5_courses_47 : decode cX5_courses 47 = .ok (.getfield 10, 3) := by decide +kernel
theorem dX5_courses_50 : decode cX5_courses 50 = .ok (.invokevirtual 73, 3) := by decide +kernel
theorem dX5_courses_53 : decode cX5_courses 53 = .ok (.ireturn, 1) := by decide +kernel
set_option maxRecDepth 20000 in
theorem ggX5_on_X3_has : GoodIn wsX5_on wsX3_has := goodIn_r _ [11, 12, 125, 126, 127, 128, 129, 130, 131, 132, 133, 134, 135, 136, 137] (by decide +kernel) (by decide +kernel)
set_option maxRecDepth 20000 in
theorem gX5_on_X3_has : GoodIn wsX5_on (wsV RX5 98 RX3 yX3_has wsX3_has) := goodIn_app (goodIn_of _ (by decide +kernel)) ggX5_on_X3_has
set_option maxRecDepth 20000 in
theorem ggX5_on_X5_within : GoodIn wsX5_on wsX5_within := goodIn_r _ [16] (by decide +kernel) (by decide +kernel)
set_option maxRecDepth 20000 in
theorem gX5_on_X5_within : GoodIn wsX5_on (va_wsS RX5 48 yX5_within wsX5_within) := goodIn_app (goodIn_of _ (by decide +kernel)) ggX5_on_X5_within
set_option maxRecDepth 20000 in
theorem ggX5_on_X5_found : GoodIn wsX5_on wsX5_found := goodIn_r _ [20, 2, 21, 118, 119, 120, 121, 122, 123, 124] (by decide +kernel) (by decide +kernel)
set_option maxRecDepth 20000 in
theorem gX5_on_X5_found : GoodIn wsX5_on (wsV RX5 53 RX5 yX5_found wsX5_found) := goodIn_app (goodIn_of _ (by decide +kernel)) ggX5_on_X5_found
set_option maxRecDepth 20000 in
theorem ggX5_on_X3_become : GoodIn wsX5_on wsX3_become := goodIn_r _ [25, 26, 27, 28, 29, 30, 31, 32, 33, 34, 12, 35, 36, 37, 38, 39, 125, 126, 127, 128, 129, 130, 131, 132, 133, 134, 135, 136, 137] (by decide +kernel) (by decide +kernel)
set_option maxRecDepth 20000 in
theorem gX5_on_X3_become : GoodIn wsX5_on (wsV RX5 150 RX3 yX3_become wsX3_become) := goodIn_app (goodIn_of _ (by decide +kernel)) ggX5_on_X3_become
set_option maxRecDepth 20000 in
theorem ggX5_on_X3_serve : GoodIn wsX5_on wsX3_serve := goodIn_r _ [43, 44, 45, 46, 10, 47, 12, 48, 49, 50, 51, 52, 53, 36, 35, 27, 32, 33, 54, 55, 56, 57, 34, 58, 59, 60, 61, 62, 63, 64, 65, 66, 67, 68, 69, 70, 71, 72, 73, 74, 75, 76, 77, 78, 79, 80, 81, 82, 83, 84, 85, 86, 87, 88, 89, 90, 91, 92, 37, 93, 94, 95, 96, 97, 98, 99, 38, 39, 26, 100, 101, 102, 103, 104, 105, 106, 107, 108, 109, 110, 111, 112, 113, 114, 115, 116, 117, 125, 126, 127, 128, 129, 130, 131, 132, 133, 134, 135, 136, 137] (by decide +kernel) (by decide +kernel)
set_option maxRecDepth 20000 in
theorem gX5_on_X3_serve : GoodIn wsX5_on (wsV RX5 146 RX3 yX3_serve wsX3_serve) := goodIn_app (goodIn_of _ (by decide +kernel)) ggX5_on_X3_serve
theorem dX5_on_0 : decode cX5_on 0 = .ok (.aload_n 0, 1) := by decide +kernel
theorem dX5_on_1 : decode cX5_on 1 = .ok (.getfield 10, 3) := by decide +kernel
theorem dX5_on_4 : decode cX5_on 4 = .ok (.iload_n 1, 1) := by decide +kernel
theorem dX5_on_5 : decode cX5_on 5 = .ok (.invokevirtual 98, 3) := by decide +kernel
theorem dX5_on_8 : decode cX5_on 8 = .ok (.ifCond .eq 22, 3) := by decide +kernel
theorem dX5_on_11 : decode cX5_on 11 = .ok (.iload_n 2, 1) := by decide +kernel
theorem dX5_on_12 : decode cX5_on 12 = .ok (.iconst 0, 1) := by decide +kernel
theorem dX5_on_13 : decode cX5_on 13 = .ok (.bipush 100, 2) := by decide +kernel
theorem dX5_on_15 : decode cX5_on 15 = .ok (.invokestatic 48, 3) := by decide +kernel
theorem dX5_on_18 : decode cX5_on 18 = .ok (.ifCond .eq 12, 3) := by decide +kernel
theorem dX5_on_21 : decode cX5_on 21 = .ok (.iload_n 3, 1) := by decide +kernel
theorem dX5_on_22 : decode cX5_on 22 = .ok (.ifCond .lt 8, 3) := by decide +kernel
theorem dX5_on_25 : decode cX5_on 25 = .ok (.iload_n 3, 1) := by decide +kernel
theorem dX5_on_26 : decode cX5_on 26 = .ok (.iconst 2, 1) := by decide +kernel
theorem dX5_on_27 : decode cX5_on 27 = .ok (.if_icmp .le 10, 3) := by decide +kernel
theorem dX5_on_30 : decode cX5_on 30 = .ok (.aload_n 0, 1) := by decide +kernel
theorem dX5_on_31 : decode cX5_on 31 = .ok (.ldc 52, 2) := by decide +kernel
theorem dX5_on_33 : decode cX5_on 33 = .ok (.invokevirtual 53, 3) := by decide +kernel
theorem dX5_on_36 : decode cX5_on 36 = .ok (.ireturn, 1) := by decide +kernel
theorem dX5_on_37 : decode cX5_on 37 = .ok (.aload_n 0, 1) := by decide +kernel
theorem dX5_on_38 : decode cX5_on 38 = .ok (.getfield 16, 3) := by decide +kernel
theorem dX5_on_41 : decode cX5_on 41 = .ok (.aload_n 0, 1) := by decide +kernel
theorem dX5_on_42 : decode cX5_on 42 = .ok (.getfield 10, 3) := by decide +kernel
theorem dX5_on_45 : decode cX5_on 45 = .ok (.invokevirtual 150, 3) := by decide +kernel
theorem dX5_on_48 : decode cX5_on 48 = .ok (.aload_n 0, 1) := by decide +kernel
theorem dX5_on_49 : decode cX5_on 49 = .ok (.getfield 16, 3) := by decide +kernel
theorem dX5_on_52 : decode cX5_on 52 = .ok (.iload_n 2, 1) := by decide +kernel
theorem dX5_on_53 : decode cX5_on 53 = .ok (.invokevirtual 146, 3) := by decide +kernel
theorem dX5_on_56 : decode cX5_on 56 = .ok (.iload_n 3, 1) := by decide +kernel
theorem dX5_on_57 : decode cX5_on 57 = .ok (.ifCond .ne 15, 3) := by decide +kernel
theorem dX5_on_60 : decode cX5_on 60 = .ok (.aload_n 0, 1) := by decide +kernel
theorem dX5_on_61 : decode cX5_on 61 = .ok (.getfield 16, 3) := by decide +kernel
theorem dX5_on_64 : decode cX5_on 64 = .ok (.getfield 107, 3) := by decide +kernel
theorem dX5_on_67 : decode cX5_on 67 = .ok (.iload_n 1, 1) := by decide +kernel
theorem dX5_on_68 : decode cX5_on 68 = .ok (.iaload, 1) := by decide +kernel
theorem dX5_on_69 : decode cX5_on 69 = .ok (.goto 29, 3) := by decide +kernel
theorem dX5_on_72 : decode cX5_on 72 = .ok (.iload_n 3, 1) := by decide +kernel
theorem dX5_on_73 : decode cX5_on 73 = .ok (.iconst 1, 1) := by decide +kernel
theorem dX5_on_74 : decode cX5_on 74 = .ok (.if_icmp .ne 15, 3) := by decide +kernel
theorem dX5_on_77 : decode cX5_on 77 = .ok (.aload_n 0, 1) := by decide +kernel
theorem dX5_on_78 : decode cX5_on 78 = .ok (.getfield 16, 3) := by decide +kernel
theorem dX5_on_81 : decode cX5_on 81 = .ok (.getfield 110, 3) := by decide +kernel
theorem dX5_on_84 : decode cX5_on 84 = .ok (.iload_n 1, 1) := by decide +kernel
theorem dX5_on_85 : decode cX5_on 85 = .ok (.iaload, 1) := by decide +kernel
theorem dX5_on_86 : decode cX5_on 86 = .ok (.goto 12, 3) := by decide +kernel
theorem dX5_on_89 : decode cX5_on 89 = .ok (.aload_n 0, 1) := by decide +kernel
theorem dX5_on_90 : decode cX5_on 90 = .ok (.getfield 16, 3) := by decide +kernel
theorem dX5_on_93 : decode cX5_on 93 = .ok (.getfield 113, 3) := by decide +kernel
theorem dX5_on_96 : decode cX5_on 96 = .ok (.iload_n 1, 1) := by decide +kernel
theorem dX5_on_97 : decode cX5_on 97 = .ok (.iaload, 1) := by decide +kernel
theorem dX5_on_98 : decode cX5_on 98 = .ok (.ireturn, 1) := by decide +kernel
set_option maxRecDepth 20000 in
theorem ggX5_mood_X5_within : GoodIn wsX5_mood wsX5_within := goodIn_r _ [7] (by decide +kernel) (by decide +kernel)
set_option maxRecDepth 20000 in
theorem gX5_mood_X5_within : GoodIn wsX5_mood (va_wsS RX5 48 yX5_within wsX5_within) := goodIn_app (goodIn_of _ (by decide +kernel)) ggX5_mood_X5_within
set_option maxRecDepth 20000 in
theorem ggX5_mood_X5_found : GoodIn wsX5_mood wsX5_found := goodIn_r _ [11, 1, 12, 118, 119, 120, 121, 122, 123, 124] (by decide +kernel) (by decide +kernel)
set_option maxRecDepth 20000 in
theorem gX5_mood_X5_found : GoodIn wsX5_mood (wsV RX5 53 RX5 yX5_found wsX5_found) := goodIn_app (goodIn_of _ (by decide +kernel)) ggX5_mood_X5_found
set_option maxRecDepth 20000 in
theorem ggX5_mood_X3_become : GoodIn wsX5_mood wsX3_become := goodIn_r _ [17, 18, 19, 20, 21, 22, 23, 24, 25, 26, 27, 28, 29, 30, 31, 32, 125, 126, 127, 128, 129, 130, 131, 132, 133, 134, 135, 136, 137] (by decide +kernel) (by decide +kernel)
set_option maxRecDepth 20000 in
theorem gX5_mood_X3_become : GoodIn wsX5_mood (wsV RX5 150 RX3 yX3_become wsX3_become) := goodIn_app (goodIn_of _ (by decide +kernel)) ggX5_mood_X3_become
set_option maxRecDepth 20000 in
theorem ggX5_mood_X3_serve : GoodIn wsX5_mood wsX3_serve := goodIn_r _ [36, 37, 38, 39, 16, 40, 27, 41, 42, 43, 44, 45, 46, 29, 28, 19, 24, 25, 47, 48, 49, 50, 26, 51, 52, 53, 54, 55, 56, 57, 58, 59, 60, 61, 62, 63, 64, 65, 66, 67, 68, 69, 70, 71, 72, 73, 74, 75, 76, 77, 78, 79, 80, 81, 82, 83, 84, 85, 30, 86, 87, 88, 89, 90, 91, 92, 31, 32, 18, 93, 94, 95, 96, 97, 98, 99, 100, 101, 102, 103, 104, 105, 106, 107, 108, 109, 110, 125, 126, 127, 128, 129, 130, 131, 132, 133, 134, 135, 136, 137] (by decide +kernel) (by decide +kernel)
set_option maxRecDepth 20000 in
theorem gX5_mood_X3_serve : GoodIn wsX5_mood (wsV RX5 146 RX3 yX3_serve wsX3_serve) := goodIn_app (goodIn_of _ (by decide +kernel)) ggX5_mood_X3_serve
set_option maxRecDepth 20000 in
theorem ggX5_mood_X3_easeOfAll : GoodIn wsX5_mood wsX3_easeOfAll := goodIn_r _ [114, 30, 27, 115, 116, 16, 117, 125, 126, 127, 128, 129, 130, 131, 132, 133, 134, 135, 136, 137] (by decide +kernel) (by decide +kernel)
set_option maxRecDepth 20000 in
theorem gX5_mood_X3_easeOfAll : GoodIn wsX5_mood (wsV RX5 80 RX3 yX3_easeOfAll wsX3_easeOfAll) := goodIn_app (goodIn_of _ (by decide +kernel)) ggX5_mood_X3_easeOfAll
theorem dX5_mood_0 : decode cX5_mood 0 = .ok (.iload_n 1, 1) := by decide +kernel
theorem dX5_mood_1 : decode cX5_mood 1 = .ok (.iconst 0, 1) := by decide +kernel
theorem dX5_mood_2 : decode cX5_mood 2 = .ok (.bipush 100, 2) := by decide +kernel
theorem dX5_mood_4 : decode cX5_mood 4 = .ok (.invokestatic 48, 3) := by decide +kernel
theorem dX5_mood_7 : decode cX5_mood 7 = .ok (.ifCond .ne 10, 3) := by decide +kernel
theorem dX5_mood_10 : decode cX5_mood 10 = .ok (.aload_n 0, 1) := by decide +kernel
theorem dX5_mood_11 : decode cX5_mood 11 = .ok (.ldc 52, 2) := by decide +kernel
theorem dX5_mood_13 : decode cX5_mood 13 = .ok (.invokevirtual 53, 3) := by decide +kernel
theorem dX5_mood_16 : decode cX5_mood 16 = .ok (.ireturn, 1) := by decide +kernel
theorem dX5_mood_17 : decode cX5_mood 17 = .ok (.aload_n 0, 1) := by decide +kernel
theorem dX5_mood_18 : decode cX5_mood 18 = .ok (.getfield 16, 3) := by decide +kernel
theorem dX5_mood_21 : decode cX5_mood 21 = .ok (.aload_n 0, 1) := by decide +kernel
theorem dX5_mood_22 : decode cX5_mood 22 = .ok (.getfield 10, 3) := by decide +kernel
theorem dX5_mood_25 : decode cX5_mood 25 = .ok (.invokevirtual 150, 3) := by decide +kernel
theorem dX5_mood_28 : decode cX5_mood 28 = .ok (.aload_n 0, 1) := by decide +kernel
theorem dX5_mood_29 : decode cX5_mood 29 = .ok (.getfield 16, 3) := by decide +kernel
theorem dX5_mood_32 : decode cX5_mood 32 = .ok (.iload_n 1, 1) := by decide +kernel
theorem dX5_mood_33 : decode cX5_mood 33 = .ok (.invokevirtual 146, 3) := by decide +kernel
theorem dX5_mood_36 : decode cX5_mood 36 = .ok (.aload_n 0, 1) := by decide +kernel
theorem dX5_mood_37 : decode cX5_mood 37 = .ok (.getfield 16, 3) := by decide +kernel
theorem dX5_mood_40 : decode cX5_mood 40 = .ok (.invokevirtual 80, 3) := by decide +kernel
theorem dX5_mood_43 : decode cX5_mood 43 = .ok (.ireturn, 1) := by decide +kernel
set_option maxRecDepth 20000 in
theorem ggX5_peace_X3_become : GoodIn wsX5_peace wsX3_become := goodIn_r _ [8, 9, 10, 11, 12, 13, 14, 15, 16, 17, 18, 19, 20, 21, 22, 23, 113, 114, 115, 116, 117, 118, 119, 120, 121, 122, 123, 124, 125] (by decide +kernel) (by decide +kernel)
set_option maxRecDepth 20000 in
theorem gX5_peace_X3_become : GoodIn wsX5_peace (wsV RX5 150 RX3 yX3_become wsX3_become) := goodIn_app (goodIn_of _ (by decide +kernel)) ggX5_peace_X3_become
set_option maxRecDepth 20000 in
theorem ggX5_peace_X3_findMore : GoodIn wsX5_peace wsX3_findMore := goodIn_r _ [27, 18, 28, 29, 30, 31, 32, 7, 33, 20, 19, 10, 15, 16, 34, 35, 36, 37, 17, 38, 39, 40, 41, 42, 43, 44, 45, 46, 47, 48, 49, 50, 51, 52, 53, 54, 55, 56, 57, 58, 59, 60, 61, 62, 63, 64, 65, 66, 67, 68, 113, 114, 115, 116, 117, 118, 119, 120, 121, 122, 123, 124, 125] (by decide +kernel) (by decide +kernel)
set_option maxRecDepth 20000 in
theorem gX5_peace_X3_findMore : GoodIn wsX5_peace (wsV RX5 154 RX3 yX3_findMore wsX3_findMore) := goodIn_app (goodIn_of _ (by decide +kernel)) ggX5_peace_X3_findMore
set_option maxRecDepth 20000 in
theorem ggX5_peace_X3_soreSet : GoodIn wsX5_peace wsX3_soreSet := goodIn_r _ [72, 18, 21, 19, 73, 74, 56, 75, 113, 114, 115, 116, 117, 118, 119, 120, 121, 122, 123, 124, 125] (by decide +kernel) (by decide +kernel)
set_option maxRecDepth 20000 in
theorem gX5_peace_X3_soreSet : GoodIn wsX5_peace (wsV RX5 73 RX3 yX3_soreSet wsX3_soreSet) := goodIn_app (goodIn_of _ (by decide +kernel)) ggX5_peace_X3_soreSet
set_option maxRecDepth 20000 in
theorem ggX5_peace_X3_serveOne : GoodIn wsX5_peace wsX3_serveOne := goodIn_r _ [79, 18, 21, 28, 80, 81, 82, 83, 84, 85, 86, 22, 23, 29, 9, 87, 88, 89, 7, 90, 91, 92, 93, 94, 19, 16, 20, 95, 96, 56, 97, 98, 70, 71, 72, 73, 74, 75, 47, 48, 49, 50, 51, 52, 53, 113, 114, 115, 116, 117, 118, 119, 120, 121, 122, 123, 124, 125] (by decide +kernel) (by decide +kernel)
set_option maxRecDepth 20000 in
theorem gX5_peace_X3_serveOne : GoodIn wsX5_peace (wsV RX5 157 RX3 yX3_serveOne wsX3_serveOne) := goodIn_app (goodIn_of _ (by decide +kernel)) ggX5_peace_X3_serveOne
set_option maxRecDepth 20000 in
theorem ggX5_peace_X5_found : GoodIn wsX5_peace wsX5_found := goodIn_r _ [103, 104, 105, 106, 107, 108, 109, 110, 111, 112] (by decide +kernel) (by decide +kernel)
set_option maxRecDepth 20000 in
theorem gX5_peace_X5_found : GoodIn wsX5_peace (wsV RX5 53 RX5 yX5_found wsX5_found) := goodIn_app (goodIn_of _ (by decide +kernel)) ggX5_peace_X5_found
theorem dX5_peace_0 : decode cX5_peace 0 = .ok (.aload_n 0, 1) := by decide +kernel
theorem dX5_peace_1 : decode cX5_peace 1 = .ok (.getfield 16, 3) := by decide +kernel
theorem dX5_peace_4 : decode cX5_peace 4 = .ok (.aload_n 0, 1) := by decide +kernel
theorem dX5_peace_5 : decode cX5_peace 5 = .ok (.getfield 10, 3) := by decide +kernel
theorem dX5_peace_8 : decode cX5_peace 8 = .ok (.invokevirtual 150, 3) := by decide +kernel
theorem dX5_peace_11 : decode cX5_peace 11 = .ok (.aload_n 0, 1) := by decide +kernel
theorem dX5_peace_12 : decode cX5_peace 12 = .ok (.getfield 16, 3) := by decide +kernel
theorem dX5_peace_15 : decode cX5_peace 15 = .ok (.invokevirtual 154, 3) := by decide +kernel
theorem dX5_peace_18 : decode cX5_peace 18 = .ok (.iconst 0, 1) := by decide +kernel
theorem dX5_peace_19 : decode cX5_peace 19 = .ok (.istore_n 1, 1) := by decide +kernel
theorem dX5_peace_20 : decode cX5_peace 20 = .ok (.iload_n 1, 1) := by decide +kernel
theorem dX5_peace_21 : decode cX5_peace 21 = .ok (.bipush 100, 2) := by decide +kernel
theorem dX5_peace_23 : decode cX5_peace 23 = .ok (.if_icmp .gt 28, 3) := by decide +kernel
theorem dX5_peace_26 : decode cX5_peace 26 = .ok (.aload_n 0, 1) := by decide +kernel
theorem dX5_peace_27 : decode cX5_peace 27 = .ok (.getfield 16, 3) := by decide +kernel
theorem dX5_peace_30 : decode cX5_peace 30 = .ok (.invokevirtual 73, 3) := by decide +kernel
theorem dX5_peace_33 : decode cX5_peace 33 = .ok (.ifCond .ne 5, 3) := by decide +kernel
theorem dX5_peace_36 : decode cX5_peace 36 = .ok (.iload_n 1, 1) := by decide +kernel
theorem dX5_peace_37 : decode cX5_peace 37 = .ok (.ireturn, 1) := by decide +kernel
theorem dX5_peace_38 : decode cX5_peace 38 = .ok (.aload_n 0, 1) := by decide +kernel
theorem dX5_peace_39 : decode cX5_peace 39 = .ok (.getfield 16, 3) := by decide +kernel
theorem dX5_peace_42 : decode cX5_peace 42 = .ok (.invokevirtual 157, 3) := by decide +kernel
theorem dX5_peace_45 : decode cX5_peace 45 = .ok (.iinc 1 1, 3) := by decide +kernel
theorem dX5_peace_48 : decode cX5_peace 48 = .ok (.goto (-28), 3) := by decide +kernel
theorem dX5_peace_51 : decode cX5_peace 51 = .ok (.aload_n 0, 1) := by decide +kernel
theorem dX5_peace_52 : decode cX5_peace 52 = .ok (.ldc 160, 2) := by decide +kernel
theorem dX5_peace_54 : decode cX5_peace 54 = .ok (.invokevirtual 53, 3) := by decide +kernel
theorem dX5_peace_57 : decode cX5_peace 57 = .ok (.ireturn, 1) := by decide +kernel
set_option maxRecDepth 20000 in
theorem ggX5_tells_X3_has : GoodIn wsX5_tells wsX3_has := goodIn_r _ [9, 10, 117, 118, 119, 120, 121, 122, 123, 124, 125, 126, 127, 128, 129] (by decide +kernel) (by decide +kernel)
set_option maxRecDepth 20000 in
theorem gX5_tells_X3_has : GoodIn wsX5_tells (wsV RX5 98 RX3 yX3_has wsX3_has) := goodIn_app (goodIn_of _ (by decide +kernel)) ggX5_tells_X3_has
set_option maxRecDepth 20000 in
theorem ggX5_tells_X5_found : GoodIn wsX5_tells wsX5_found := goodIn_r _ [15, 2, 16, 110, 111, 112, 113, 114, 115, 116] (by decide +kernel) (by decide +kernel)
set_option maxRecDepth 20000 in
theorem gX5_tells_X5_found : GoodIn wsX5_tells (wsV RX5 53 RX5 yX5_found wsX5_found) := goodIn_app (goodIn_of _ (by decide +kernel)) ggX5_tells_X5_found
set_option maxRecDepth 20000 in
theorem ggX5_tells_X3_become : GoodIn wsX5_tells wsX3_become := goodIn_r _ [20, 21, 22, 23, 24, 25, 26, 27, 28, 29, 10, 30, 31, 32, 33, 34, 117, 118, 119, 120, 121, 122, 123, 124, 125, 126, 127, 128, 129] (by decide +kernel) (by decide +kernel)
set_option maxRecDepth 20000 in
theorem gX5_tells_X3_become : GoodIn wsX5_tells (wsV RX5 150 RX3 yX3_become wsX3_become) := goodIn_app (goodIn_of _ (by decide +kernel)) ggX5_tells_X3_become
set_option maxRecDepth 20000 in
theorem ggX5_tells_X3_findMore : GoodIn wsX5_tells wsX3_findMore := goodIn_r _ [38, 10, 39, 40, 41, 42, 43, 8, 44, 31, 30, 22, 27, 28, 45, 46, 47, 48, 29, 49, 50, 51, 52, 53, 54, 55, 56, 57, 58, 59, 60, 61, 62, 63, 64, 65, 66, 67, 68, 69, 70, 71, 72, 73, 74, 75, 76, 77, 78, 79, 117, 118, 119, 120, 121, 122, 123, 124, 125, 126, 127, 128, 129] (by decide +kernel) (by decide +kernel)
set_option maxRecDepth 20000 in
theorem gX5_tells_X3_findMore : GoodIn wsX5_tells (wsV RX5 154 RX3 yX3_findMore wsX3_findMore) := goodIn_app (goodIn_of _ (by decide +kernel)) ggX5_tells_X3_findMore
set_option maxRecDepth 20000 in
theorem ggX5_tells_X3_isTelling : GoodIn wsX5_tells wsX3_isTelling := goodIn_r _ [83, 30, 28, 31, 32, 84, 85, 67, 86, 117, 118, 119, 120, 121, 122, 123, 124, 125, 126, 127, 128, 129] (by decide +kernel) (by decide +kernel)
set_option maxRecDepth 20000 in
theorem gX5_tells_X3_isTelling : GoodIn wsX5_tells (wsV RX5 161 RX3 yX3_isTelling wsX3_isTelling) := goodIn_app (goodIn_of _ (by decide +kernel)) ggX5_tells_X3_isTelling
set_option maxRecDepth 20000 in
theorem ggX5_tells_X3_serveOne : GoodIn wsX5_tells wsX3_serveOne := goodIn_r _ [90, 10, 32, 39, 91, 92, 93, 94, 95, 96, 97, 33, 34, 40, 21, 98, 99, 100, 8, 101, 102, 81, 82, 83, 30, 28, 31, 84, 85, 67, 86, 103, 104, 105, 106, 107, 108, 109, 58, 59, 60, 61, 62, 63, 64, 117, 118, 119, 120, 121, 122, 123, 124, 125, 126, 127, 128, 129] (by decide +kernel) (by decide +kernel)
set_option maxRecDepth 20000 in
theorem gX5_tells_X3_serveOne : GoodIn wsX5_tells (wsV RX5 157 RX3 yX3_serveOne wsX3_serveOne) := goodIn_app (goodIn_of _ (by decide +kernel)) ggX5_tells_X3_serveOne
theorem dX5_tells_0 : decode cX5_tells 0 = .ok (.aload_n 0, 1) := by decide +kernel
theorem dX5_tells_1 : decode cX5_tells 1 = .ok (.getfield 10, 3) := by decide +kernel
theorem dX5_tells_4 : decode cX5_tells 4 = .ok (.iload_n 1, 1) := by decide +kernel
theorem dX5_tells_5 : decode cX5_tells 5 = .ok (.invokevirtual 98, 3) := by decide +kernel
theorem dX5_tells_8 : decode cX5_tells 8 = .ok (.ifCond .ne 10, 3) := by decide +kernel
theorem dX5_tells_11 : decode cX5_tells 11 = .ok (.aload_n 0, 1) := by decide +kernel
theorem dX5_tells_12 : decode cX5_tells 12 = .ok (.ldc 52, 2) := by decide +kernel
theorem dX5_tells_14 : decode cX5_tells 14 = .ok (.invokevirtual 53, 3) := by decide +kernel
theorem dX5_tells_17 : decode cX5_tells 17 = .ok (.ireturn, 1) := by decide +kernel
theorem dX5_tells_18 : decode cX5_tells 18 = .ok (.aload_n 0, 1) := by decide +kernel
theorem dX5_tells_19 : decode cX5_tells 19 = .ok (.getfield 16, 3) := by decide +kernel
theorem dX5_tells_22 : decode cX5_tells 22 = .ok (.aload_n 0, 1) := by decide +kernel
theorem dX5_tells_23 : decode cX5_tells 23 = .ok (.getfield 10, 3) := by decide +kernel
theorem dX5_tells_26 : decode cX5_tells 26 = .ok (.invokevirtual 150, 3) := by decide +kernel
theorem dX5_tells_29 : decode cX5_tells 29 = .ok (.aload_n 0, 1) := by decide +kernel
theorem dX5_tells_30 : decode cX5_tells 30 = .ok (.getfield 16, 3) := by decide +kernel
theorem dX5_tells_33 : decode cX5_tells 33 = .ok (.invokevirtual 154, 3) := by decide +kernel
theorem dX5_tells_36 : decode cX5_tells 36 = .ok (.iconst 1, 1) := by decide +kernel
theorem dX5_tells_37 : decode cX5_tells 37 = .ok (.istore_n 2, 1) := by decide +kernel
theorem dX5_tells_38 : decode cX5_tells 38 = .ok (.iload_n 2, 1) := by decide +kernel
theorem dX5_tells_39 : decode cX5_tells 39 = .ok (.bipush 100, 2) := by decide +kernel
theorem dX5_tells_41 : decode cX5_tells 41 = .ok (.if_icmp .gt 29, 3) := by decide +kernel
theorem dX5_tells_44 : decode cX5_tells 44 = .ok (.aload_n 0, 1) := by decide +kernel
theorem dX5_tells_45 : decode cX5_tells 45 = .ok (.getfield 16, 3) := by decide +kernel
theorem dX5_tells_48 : decode cX5_tells 48 = .ok (.iload_n 1, 1) := by decide +kernel
theorem dX5_tells_49 : decode cX5_tells 49 = .ok (.invokevirtual 161, 3) := by decide +kernel
theorem dX5_tells_52 : decode cX5_tells 52 = .ok (.ifCond .eq 5, 3) := by decide +kernel
theorem dX5_tells_55 : decode cX5_tells 55 = .ok (.iload_n 2, 1) := by decide +kernel
theorem dX5_tells_56 : decode cX5_tells 56 = .ok (.ireturn, 1) := by decide +kernel
theorem dX5_tells_57 : decode cX5_tells 57 = .ok (.aload_n 0, 1) := by decide +kernel
theorem dX5_tells_58 : decode cX5_tells 58 = .ok (.getfield 16, 3) := by decide +kernel
theorem dX5_tells_61 : decode cX5_tells 61 = .ok (.invokevirtual 157, 3) := by decide +kernel
theorem dX5_tells_64 : decode cX5_tells 64 = .ok (.iinc 2 1, 3) := by decide +kernel
theorem dX5_tells_67 : decode cX5_tells 67 = .ok (.goto (-29), 3) := by decide +kernel
theorem dX5_tells_70 : decode cX5_tells 70 = .ok (.aload_n 0, 1) := by decide +kernel
theorem dX5_tells_71 : decode cX5_tells 71 = .ok (.ldc 160, 2) := by decide +kernel
theorem dX5_tells_73 : decode cX5_tells 73 = .ok (.invokevirtual 53, 3) := by decide +kernel
theorem dX5_tells_76 : decode cX5_tells 76 = .ok (.ireturn, 1) := by decide +kernel
set_option maxRecDepth 20000 in
theorem ggX5_quarrels_X3_has : GoodIn wsX5_quarrels wsX3_has := goodIn_r _ [10, 11, 117, 118, 119, 120, 121, 122, 123, 124, 125, 126, 127, 128, 129] (by decide +kernel) (by decide +kernel)
set_option maxRecDepth 20000 in
theorem gX5_quarrels_X3_has : GoodIn wsX5_quarrels (wsV RX5 98 RX3 yX3_has wsX3_has) := goodIn_app (goodIn_of _ (by decide +kernel)) ggX5_quarrels_X3_has
set_option maxRecDepth 20000 in
theorem ggX5_quarrels_X5_found : GoodIn wsX5_quarrels wsX5_found := goodIn_r _ [16, 2, 17, 110, 111, 112, 113, 114, 115, 116] (by decide +kernel) (by decide +kernel)
set_option maxRecDepth 20000 in
theorem gX5_quarrels_X5_found : GoodIn wsX5_quarrels (wsV RX5 53 RX5 yX5_found wsX5_found) := goodIn_app (goodIn_of _ (by decide +kernel)) ggX5_quarrels_X5_found
set_option maxRecDepth 20000 in
theorem ggX5_quarrels_X3_become : GoodIn wsX5_quarrels wsX3_become := goodIn_r _ [21, 22, 23, 24, 25, 26, 27, 28, 29, 30, 11, 31, 32, 33, 34, 35, 117, 118, 119, 120, 121, 122, 123, 124, 125, 126, 127, 128, 129] (by decide +kernel) (by decide +kernel)
set_option maxRecDepth 20000 in
theorem gX5_quarrels_X3_become : GoodIn wsX5_quarrels (wsV RX5 150 RX3 yX3_become wsX3_become) := goodIn_app (goodIn_of _ (by decide +kernel)) ggX5_quarrels_X3_become
set_option maxRecDepth 20000 in
theorem ggX5_quarrels_X3_findMore : GoodIn wsX5_quarrels wsX3_findMore := goodIn_r _ [39, 11, 40, 41, 42, 43, 44, 9, 45, 32, 31, 23, 28, 29, 46, 47, 48, 49, 30, 50, 51, 52, 53, 54, 55, 56, 57, 58, 59, 60, 61, 62, 63, 64, 65, 66, 67, 68, 69, 70, 71, 72, 73, 74, 75, 76, 77, 78, 79, 80, 117, 118, 119, 120, 121, 122, 123, 124, 125, 126, 127, 128, 129] (by decide +kernel) (by decide +kernel)
set_option maxRecDepth 20000 in
theorem gX5_quarrels_X3_findMore : GoodIn wsX5_quarrels (wsV RX5 154 RX3 yX3_findMore wsX3_findMore) := goodIn_app (goodIn_of _ (by decide +kernel)) ggX5_quarrels_X3_findMore
set_option maxRecDepth 20000 in
theorem ggX5_quarrels_X3_serveOne : GoodIn wsX5_quarrels wsX3_serveOne := goodIn_r _ [84, 11, 33, 40, 85, 86, 87, 88, 89, 90, 91, 34, 35, 41, 22, 92, 93, 94, 9, 95, 96, 97, 98, 99, 31, 29, 32, 100, 101, 68, 102, 103, 104, 105, 106, 107, 108, 109, 59, 60, 61, 62, 63, 64, 65, 117, 118, 119, 120, 121, 122, 123, 124, 125, 126, 127, 128, 129] (by decide +kernel) (by decide +kernel)
set_option maxRecDepth 20000 in
theorem gX5_quarrels_X3_serveOne : GoodIn wsX5_quarrels (wsV RX5 157 RX3 yX3_serveOne wsX3_serveOne) := goodIn_app (goodIn_of _ (by decide +kernel)) ggX5_quarrels_X3_serveOne
theorem dX5_quarrels_0 : decode cX5_quarrels 0 = .ok (.aload_n 0, 1) := by decide +kernel
theorem dX5_quarrels_1 : decode cX5_quarrels 1 = .ok (.getfield 10, 3) := by decide +kernel
theorem dX5_quarrels_4 : decode cX5_quarrels 4 = .ok (.iload_n 1, 1) := by decide +kernel
theorem dX5_quarrels_5 : decode cX5_quarrels 5 = .ok (.invokevirtual 98, 3) := by decide +kernel
theorem dX5_quarrels_8 : decode cX5_quarrels 8 = .ok (.ifCond .ne 10, 3) := by decide +kernel
theorem dX5_quarrels_11 : decode cX5_quarrels 11 = .ok (.aload_n 0, 1) := by decide +kernel
theorem dX5_quarrels_12 : decode cX5_quarrels 12 = .ok (.ldc 52, 2) := by decide +kernel
theorem dX5_quarrels_14 : decode cX5_quarrels 14 = .ok (.invokevirtual 53, 3) := by decide +kernel
theorem dX5_quarrels_17 : decode cX5_quarrels 17 = .ok (.ireturn, 1) := by decide +kernel
theorem dX5_quarrels_18 : decode cX5_quarrels 18 = .ok (.aload_n 0, 1) := by decide +kernel
theorem dX5_quarrels_19 : decode cX5_quarrels 19 = .ok (.getfield 16, 3) := by decide +kernel
theorem dX5_quarrels_22 : decode cX5_quarrels 22 = .ok (.aload_n 0, 1) := by decide +kernel
theorem dX5_quarrels_23 : decode cX5_quarrels 23 = .ok (.getfield 10, 3) := by decide +kernel
theorem dX5_quarrels_26 : decode cX5_quarrels 26 = .ok (.invokevirtual 150, 3) := by decide +kernel
theorem dX5_quarrels_29 : decode cX5_quarrels 29 = .ok (.aload_n 0, 1) := by decide +kernel
theorem dX5_quarrels_30 : decode cX5_quarrels 30 = .ok (.getfield 16, 3) := by decide +kernel
theorem dX5_quarrels_33 : decode cX5_quarrels 33 = .ok (.invokevirtual 154, 3) := by decide +kernel
theorem dX5_quarrels_36 : decode cX5_quarrels 36 = .ok (.iconst 1, 1) := by decide +kernel
theorem dX5_quarrels_37 : decode cX5_quarrels 37 = .ok (.istore_n 2, 1) := by decide +kernel
theorem dX5_quarrels_38 : decode cX5_quarrels 38 = .ok (.iload_n 2, 1) := by decide +kernel
theorem dX5_quarrels_39 : decode cX5_quarrels 39 = .ok (.bipush 100, 2) := by decide +kernel
theorem dX5_quarrels_41 : decode cX5_quarrels 41 = .ok (.if_icmp .gt 39, 3) := by decide +kernel
theorem dX5_quarrels_44 : decode cX5_quarrels 44 = .ok (.aload_n 0, 1) := by decide +kernel
theorem dX5_quarrels_45 : decode cX5_quarrels 45 = .ok (.getfield 16, 3) := by decide +kernel
theorem dX5_quarrels_48 : decode cX5_quarrels 48 = .ok (.invokevirtual 157, 3) := by decide +kernel
theorem dX5_quarrels_51 : decode cX5_quarrels 51 = .ok (.aload_n 0, 1) := by decide +kernel
theorem dX5_quarrels_52 : decode cX5_quarrels 52 = .ok (.getfield 16, 3) := by decide +kernel
theorem dX5_quarrels_55 : decode cX5_quarrels 55 = .ok (.getfield 113, 3) := by decide +kernel
theorem dX5_quarrels_58 : decode cX5_quarrels 58 = .ok (.iload_n 1, 1) := by decide +kernel
theorem dX5_quarrels_59 : decode cX5_quarrels 59 = .ok (.iaload, 1) := by decide +kernel
theorem dX5_quarrels_60 : decode cX5_quarrels 60 = .ok (.aload_n 0, 1) := by decide +kernel
theorem dX5_quarrels_61 : decode cX5_quarrels 61 = .ok (.getfield 10, 3) := by decide +kernel
theorem dX5_quarrels_64 : decode cX5_quarrels 64 = .ok (.getfield 113, 3) := by decide +kernel
theorem dX5_quarrels_67 : decode cX5_quarrels 67 = .ok (.iload_n 1, 1) := by decide +kernel
theorem dX5_quarrels_68 : decode cX5_quarrels 68 = .ok (.iaload, 1) := by decide +kernel
theorem dX5_quarrels_69 : decode cX5_quarrels 69 = .ok (.if_icmp .le 5, 3) := by decide +kernel
theorem dX5_quarrels_72 : decode cX5_quarrels 72 = .ok (.iload_n 2, 1) := by decide +kernel
theorem dX5_quarrels_73 : decode cX5_quarrels 73 = .ok (.ireturn, 1) := by decide +kernel
theorem dX5_quarrels_74 : decode cX5_quarrels 74 = .ok (.iinc 2 1, 3) := by decide +kernel
theorem dX5_quarrels_77 : decode cX5_quarrels 77 = .ok (.goto (-39), 3) := by decide +kernel
theorem dX5_quarrels_80 : decode cX5_quarrels 80 = .ok (.aload_n 0, 1) := by decide +kernel
theorem dX5_quarrels_81 : decode cX5_quarrels 81 = .ok (.ldc 160, 2) := by decide +kernel
theorem dX5_quarrels_83 : decode cX5_quarrels 83 = .ok (.invokevirtual 53, 3) := by decide +kernel
theorem dX5_quarrels_86 : decode cX5_quarrels 86 = .ok (.ireturn, 1) := by decide +kernel
set_option maxRecDepth 20000 in
theorem ggX5_best_X3_has : GoodIn wsX5_best wsX3_has := goodIn_r _ [10, 11, 132, 133, 134, 135, 136, 137, 138, 139, 140, 141, 142, 143, 144] (by decide +kernel) (by decide +kernel)
set_option maxRecDepth 20000 in
theorem gX5_best_X3_has : GoodIn wsX5_best (wsV RX5 98 RX3 yX3_has wsX3_has) := goodIn_app (goodIn_of _ (by decide +kernel)) ggX5_best_X3_has
set_option maxRecDepth 20000 in
theorem ggX5_best_X5_within : GoodIn wsX5_best wsX5_within := goodIn_r _ [15] (by decide +kernel) (by decide +kernel)
set_option maxRecDepth 20000 in
theorem gX5_best_X5_within : GoodIn wsX5_best (va_wsS RX5 48 yX5_within wsX5_within) := goodIn_app (goodIn_of _ (by decide +kernel)) ggX5_best_X5_within
set_option maxRecDepth 20000 in
theorem ggX5_best_X5_found : GoodIn wsX5_best wsX5_found := goodIn_r _ [19, 2, 20, 125, 126, 127, 128, 129, 130, 131] (by decide +kernel) (by decide +kernel)
set_option maxRecDepth 20000 in
theorem gX5_best_X5_found : GoodIn wsX5_best (wsV RX5 53 RX5 yX5_found wsX5_found) := goodIn_app (goodIn_of _ (by decide +kernel)) ggX5_best_X5_found
set_option maxRecDepth 20000 in
theorem ggX5_best_X3_freeFor : GoodIn wsX5_best wsX3_freeFor := goodIn_r _ [24, 25, 132, 133, 134, 135, 136, 137, 138, 139, 140, 141, 142, 143, 144] (by decide +kernel) (by decide +kernel)
set_option maxRecDepth 20000 in
theorem gX5_best_X3_freeFor : GoodIn wsX5_best (wsV RX5 130 RX3 yX3_freeFor wsX3_freeFor) := goodIn_app (goodIn_of _ (by decide +kernel)) ggX5_best_X3_freeFor
set_option maxRecDepth 20000 in
theorem ggX5_best_X3_become : GoodIn wsX5_best wsX3_become := goodIn_r _ [29, 30, 31, 32, 33, 34, 35, 36, 37, 25, 11, 38, 39, 40, 41, 42, 132, 133, 134, 135, 136, 137, 138, 139, 140, 141, 142, 143, 144] (by decide +kernel) (by decide +kernel)
set_option maxRecDepth 20000 in
theorem gX5_best_X3_become : GoodIn wsX5_best (wsV RX5 150 RX3 yX3_become wsX3_become) := goodIn_app (goodIn_of _ (by decide +kernel)) ggX5_best_X3_become
set_option maxRecDepth 20000 in
theorem ggX5_best_X3_move : GoodIn wsX5_best wsX3_move := goodIn_r _ [46, 25, 39, 132, 133, 134, 135, 136, 137, 138, 139, 140, 141, 142, 143, 144] (by decide +kernel) (by decide +kernel)
set_option maxRecDepth 20000 in
theorem gX5_best_X3_move : GoodIn wsX5_best (wsV RX5 134 RX3 yX3_move wsX3_move) := goodIn_app (goodIn_of _ (by decide +kernel)) ggX5_best_X3_move
set_option maxRecDepth 20000 in
theorem ggX5_best_X3_serve : GoodIn wsX5_best wsX3_serve := goodIn_r _ [50, 51, 52, 53, 9, 54, 11, 55, 56, 57, 58, 59, 60, 39, 38, 31, 36, 37, 61, 62, 63, 64, 25, 65, 66, 67, 68, 69, 70, 71, 72, 73, 74, 75, 76, 77, 78, 79, 80, 81, 82, 83, 84, 85, 86, 87, 88, 89, 90, 91, 92, 93, 94, 95, 96, 97, 98, 99, 40, 100, 101, 102, 103, 104, 105, 106, 41, 42, 30, 107, 108, 109, 110, 111, 112, 113, 114, 115, 116, 117, 118, 119, 120, 121, 122, 123, 124, 132, 133, 134, 135, 136, 137, 138, 139, 140, 141, 142, 143, 144] (by decide +kernel) (by decide +kernel)
set_option maxRecDepth 20000 in
theorem gX5_best_X3_serve : GoodIn wsX5_best (wsV RX5 146 RX3 yX3_serve wsX3_serve) := goodIn_app (goodIn_of _ (by decide +kernel)) ggX5_best_X3_serve
theorem dX5_best_0 : decode cX5_best 0 = .ok (.aload_n 0, 1) := by decide +kernel
theorem dX5_best_1 : decode cX5_best 1 = .ok (.getfield 10, 3) := by decide +kernel
theorem dX5_best_4 : decode cX5_best 4 = .ok (.iload_n 1, 1) := by decide +kernel
theorem dX5_best_5 : decode cX5_best 5 = .ok (.invokevirtual 98, 3) := by decide +kernel
theorem dX5_best_8 : decode cX5_best 8 = .ok (.ifCond .eq 13, 3) := by decide +kernel
theorem dX5_best_11 : decode cX5_best 11 = .ok (.iload_n 2, 1) := by decide +kernel
theorem dX5_best_12 : decode cX5_best 12 = .ok (.iconst 1, 1) := by decide +kernel
theorem dX5_best_13 : decode cX5_best 13 = .ok (.bipush 40, 2) := by decide +kernel
theorem dX5_best_15 : decode cX5_best 15 = .ok (.invokestatic 48, 3) := by decide +kernel
theorem dX5_best_18 : decode cX5_best 18 = .ok (.ifCond .ne 10, 3) := by decide +kernel
theorem dX5_best_21 : decode cX5_best 21 = .ok (.aload_n 0, 1) := by decide +kernel
theorem dX5_best_22 : decode cX5_best 22 = .ok (.ldc 52, 2) := by decide +kernel
theorem dX5_best_24 : decode cX5_best 24 = .ok (.invokevirtual 53, 3) := by decide +kernel
theorem dX5_best_27 : decode cX5_best 27 = .ok (.ireturn, 1) := by decide +kernel
theorem dX5_best_28 : decode cX5_best 28 = .ok (.aload_n 0, 1) := by decide +kernel
theorem dX5_best_29 : decode cX5_best 29 = .ok (.getfield 10, 3) := by decide +kernel
theorem dX5_best_32 : decode cX5_best 32 = .ok (.getfield 104, 3) := by decide +kernel
theorem dX5_best_35 : decode cX5_best 35 = .ok (.iload_n 1, 1) := by decide +kernel
theorem dX5_best_36 : decode cX5_best 36 = .ok (.iaload, 1) := by decide +kernel
theorem dX5_best_37 : decode cX5_best 37 = .ok (.istore_n 3, 1) := by decide +kernel
theorem dX5_best_38 : decode cX5_best 38 = .ok (.bipush (-100), 2) := by decide +kernel
theorem dX5_best_40 : decode cX5_best 40 = .ok (.istore 4, 2) := by decide +kernel
theorem dX5_best_42 : decode cX5_best 42 = .ok (.iconst 0, 1) := by decide +kernel
theorem dX5_best_43 : decode cX5_best 43 = .ok (.istore 5, 2) := by decide +kernel
theorem dX5_best_45 : decode cX5_best 45 = .ok (.iload 5, 2) := by decide +kernel
theorem dX5_best_47 : decode cX5_best 47 = .ok (.bipush 10, 2) := by decide +kernel
theorem dX5_best_49 : decode cX5_best 49 = .ok (.if_icmp .ge 79, 3) := by decide +kernel
theorem dX5_best_52 : decode cX5_best 52 = .ok (.aload_n 0, 1) := by decide +kernel
theorem dX5_best_53 : decode cX5_best 53 = .ok (.getfield 10, 3) := by decide +kernel
theorem dX5_best_56 : decode cX5_best 56 = .ok (.iload_n 1, 1) := by decide +kernel
theorem dX5_best_57 : decode cX5_best 57 = .ok (.iload 5, 2) := by decide +kernel
theorem dX5_best_59 : decode cX5_best 59 = .ok (.invokevirtual 130, 3) := by decide +kernel
theorem dX5_best_62 : decode cX5_best 62 = .ok (.ifCond .eq 60, 3) := by decide +kernel
theorem dX5_best_65 : decode cX5_best 65 = .ok (.aload_n 0, 1) := by decide +kernel
theorem dX5_best_66 : decode cX5_best 66 = .ok (.getfield 16, 3) := by decide +kernel
theorem dX5_best_69 : decode cX5_best 69 = .ok (.aload_n 0, 1) := by decide +kernel
theorem dX5_best_70 : decode cX5_best 70 = .ok (.getfield 10, 3) := by decide +kernel
theorem dX5_best_73 : decode cX5_best 73 = .ok (.invokevirtual 150, 3) := by decide +kernel
theorem dX5_best_76 : decode cX5_best 76 = .ok (.aload_n 0, 1) := by decide +kernel
theorem dX5_best_77 : decode cX5_best 77 = .ok (.getfield 16, 3) := by decide +kernel
theorem dX5_best_80 : decode cX5_best 80 = .ok (.iload_n 1, 1) := by decide +kernel
theorem dX5_best_81 : decode cX5_best 81 = .ok (.iload 5, 2) := by decide +kernel
theorem dX5_best_83 : decode cX5_best 83 = .ok (.invokevirtual 134, 3) := by decide +kernel
theorem dX5_best_86 : decode cX5_best 86 = .ok (.aload_n 0, 1) := by decide +kernel
theorem dX5_best_87 : decode cX5_best 87 = .ok (.getfield 16, 3) := by decide +kernel
theorem dX5_best_90 : decode cX5_best 90 = .ok (.iload_n 2, 1) := by decide +kernel
theorem dX5_best_91 : decode cX5_best 91 = .ok (.invokevirtual 146, 3) := by decide +kernel
theorem dX5_best_94 : decode cX5_best 94 = .ok (.aload_n 0, 1) := by decide +kernel
theorem dX5_best_95 : decode cX5_best 95 = .ok (.getfield 16, 3) := by decide +kernel
theorem dX5_best_98 : decode cX5_best 98 = .ok (.getfield 107, 3) := by decide +kernel
theorem dX5_best_101 : decode cX5_best 101 = .ok (.iload_n 1, 1) := by decide +kernel
theorem dX5_best_102 : decode cX5_best 102 = .ok (.iaload, 1) := by decide +kernel
theorem dX5_best_103 : decode cX5_best 103 = .ok (.iload 4, 2) := by decide +kernel
theorem dX5_best_105 : decode cX5_best 105 = .ok (.if_icmp .le 17, 3) := by decide +kernel
theorem dX5_best_108 : decode cX5_best 108 = .ok (.aload_n 0, 1) := by decide +kernel
theorem dX5_best_109 : decode cX5_best 109 = .ok (.getfield 16, 3) := by decide +kernel
theorem dX5_best_112 : decode cX5_best 112 = .ok (.getfield 107, 3) := by decide +kernel
theorem dX5_best_115 : decode cX5_best 115 = .ok (.iload_n 1, 1) := by decide +kernel
theorem dX5_best_116 : decode cX5_best 116 = .ok (.iaload, 1) := by decide +kernel
theorem dX5_best_117 : decode cX5_best 117 = .ok (.istore 4, 2) := by decide +kernel
theorem dX5_best_119 : decode cX5_best 119 = .ok (.iload 5, 2) := by decide +kernel
theorem dX5_best_121 : decode cX5_best 121 = .ok (.istore_n 3, 1) := by decide +kernel
theorem dX5_best_122 : decode cX5_best 122 = .ok (.iinc 5 1, 3) := by decide +kernel
theorem dX5_best_125 : decode cX5_best 125 = .ok (.goto (-80), 3) := by decide +kernel
theorem dX5_best_128 : decode cX5_best 128 = .ok (.iload_n 3, 1) := by decide +kernel
theorem dX5_best_129 : decode cX5_best 129 = .ok (.ireturn, 1) := by decide +kernel
set_option maxRecDepth 20000 in
theorem ggX5_laid_X5_isPlace : GoodIn wsX5_laid wsX5_isPlace := goodIn_r _ [9] (by decide +kernel) (by decide +kernel)
set_option maxRecDepth 20000 in
theorem gX5_laid_X5_isPlace : GoodIn wsX5_laid (va_wsS RX5 44 yX5_isPlace wsX5_isPlace) := goodIn_app (goodIn_of _ (by decide +kernel)) ggX5_laid_X5_isPlace
set_option maxRecDepth 20000 in
theorem ggX5_laid_X5_within : GoodIn wsX5_laid wsX5_within := goodIn_r _ [12] (by decide +kernel) (by decide +kernel)
set_option maxRecDepth 20000 in
theorem gX5_laid_X5_within : GoodIn wsX5_laid (va_wsS RX5 48 yX5_within wsX5_within) := goodIn_app (goodIn_of _ (by decide +kernel)) ggX5_laid_X5_within
set_option maxRecDepth 20000 in
theorem ggX5_laid_X5_found : GoodIn wsX5_laid wsX5_found := goodIn_r _ [16, 1, 17, 123, 124, 125, 126, 127, 128, 129] (by decide +kernel) (by decide +kernel)
set_option maxRecDepth 20000 in
theorem gX5_laid_X5_found : GoodIn wsX5_laid (wsV RX5 53 RX5 yX5_found wsX5_found) := goodIn_app (goodIn_of _ (by decide +kernel)) ggX5_laid_X5_found
set_option maxRecDepth 20000 in
theorem ggX5_laid_X3_become : GoodIn wsX5_laid wsX3_become := goodIn_r _ [22, 23, 24, 25, 26, 27, 28, 29, 30, 31, 32, 33, 34, 35, 36, 37, 130, 131, 132, 133, 134, 135, 136, 137, 138, 139, 140, 141, 142] (by decide +kernel) (by decide +kernel)
set_option maxRecDepth 20000 in
theorem gX5_laid_X3_become : GoodIn wsX5_laid (wsV RX5 150 RX3 yX3_become wsX3_become) := goodIn_app (goodIn_of _ (by decide +kernel)) ggX5_laid_X3_become
set_option maxRecDepth 20000 in
theorem ggX5_laid_X3_serve : GoodIn wsX5_laid wsX3_serve := goodIn_r _ [41, 42, 43, 44, 21, 45, 32, 46, 47, 48, 49, 50, 51, 34, 33, 24, 29, 30, 52, 53, 54, 55, 31, 56, 57, 58, 59, 60, 61, 62, 63, 64, 65, 66, 67, 68, 69, 70, 71, 72, 73, 74, 75, 76, 77, 78, 79, 80, 81, 82, 83, 84, 85, 86, 87, 88, 89, 90, 35, 91, 92, 93, 94, 95, 96, 97, 36, 37, 23, 98, 99, 100, 101, 102, 103, 104, 105, 106, 107, 108, 109, 110, 111, 112, 113, 114, 115, 130, 131, 132, 133, 134, 135, 136, 137, 138, 139, 140, 141, 142] (by decide +kernel) (by decide +kernel)
set_option maxRecDepth 20000 in
theorem gX5_laid_X3_serve : GoodIn wsX5_laid (wsV RX5 146 RX3 yX3_serve wsX3_serve) := goodIn_app (goodIn_of _ (by decide +kernel)) ggX5_laid_X3_serve
set_option maxRecDepth 20000 in
theorem ggX5_laid_X3_easeOfAll : GoodIn wsX5_laid wsX3_easeOfAll := goodIn_r _ [119, 35, 32, 120, 121, 21, 122, 130, 131, 132, 133, 134, 135, 136, 137, 138, 139, 140, 141, 142] (by decide +kernel) (by decide +kernel)
set_option maxRecDepth 20000 in
theorem gX5_laid_X3_easeOfAll : GoodIn wsX5_laid (wsV RX5 80 RX3 yX3_easeOfAll wsX3_easeOfAll) := goodIn_app (goodIn_of _ (by decide +kernel)) ggX5_laid_X3_easeOfAll
theorem dX5_laid_0 : decode cX5_laid 0 = .ok (.iload_n 1, 1) := by decide +kernel
theorem dX5_laid_1 : decode cX5_laid 1 = .ok (.invokestatic 44, 3) := by decide +kernel
theorem dX5_laid_4 : decode cX5_laid 4 = .ok (.ifCond .eq 13, 3) := by decide +kernel
theorem dX5_laid_7 : decode cX5_laid 7 = .ok (.iload_n 2, 1) := by decide +kernel
theorem dX5_laid_8 : decode cX5_laid 8 = .ok (.iconst 1, 1) := by decide +kernel
theorem dX5_laid_9 : decode cX5_laid 9 = .ok (.bipush 40, 2) := by decide +kernel
theorem dX5_laid_11 : decode cX5_laid 11 = .ok (.invokestatic 48, 3) := by decide +kernel
theorem dX5_laid_14 : decode cX5_laid 14 = .ok (.ifCond .ne 10, 3) := by decide +kernel
theorem dX5_laid_17 : decode cX5_laid 17 = .ok (.aload_n 0, 1) := by decide +kernel
theorem dX5_laid_18 : decode cX5_laid 18 = .ok (.ldc 52, 2) := by decide +kernel
theorem dX5_laid_20 : decode cX5_laid 20 = .ok (.invokevirtual 53, 3) := by decide +kernel
theorem dX5_laid_23 : decode cX5_laid 23 = .ok (.ireturn, 1) := by decide +kernel
theorem dX5_laid_24 : decode cX5_laid 24 = .ok (.iconst 0, 1) := by decide +kernel
theorem dX5_laid_25 : decode cX5_laid 25 = .ok (.istore_n 3, 1) := by decide +kernel
theorem dX5_laid_26 : decode cX5_laid 26 = .ok (.sipush (-1000), 3) := by decide +kernel
theorem dX5_laid_29 : decode cX5_laid 29 = .ok (.istore 4, 2) := by decide +kernel
theorem dX5_laid_31 : decode cX5_laid 31 = .ok (.iconst 0, 1) := by decide +kernel
theorem dX5_laid_32 : decode cX5_laid 32 = .ok (.istore 5, 2) := by decide +kernel
theorem dX5_laid_34 : decode cX5_laid 34 = .ok (.iload 5, 2) := by decide +kernel
theorem dX5_laid_36 : decode cX5_laid 36 = .ok (.iconst 4, 1) := by decide +kernel
theorem dX5_laid_37 : decode cX5_laid 37 = .ok (.if_icmp .ge 77, 3) := by decide +kernel
theorem dX5_laid_40 : decode cX5_laid 40 = .ok (.aload_n 0, 1) := by decide +kernel
theorem dX5_laid_41 : decode cX5_laid 41 = .ok (.getfield 16, 3) := by decide +kernel
theorem dX5_laid_44 : decode cX5_laid 44 = .ok (.aload_n 0, 1) := by decide +kernel
theorem dX5_laid_45 : decode cX5_laid 45 = .ok (.getfield 10, 3) := by decide +kernel
theorem dX5_laid_48 : decode cX5_laid 48 = .ok (.invokevirtual 150, 3) := by decide +kernel
theorem dX5_laid_51 : decode cX5_laid 51 = .ok (.aload_n 0, 1) := by decide +kernel
theorem dX5_laid_52 : decode cX5_laid 52 = .ok (.getfield 16, 3) := by decide +kernel
theorem dX5_laid_55 : decode cX5_laid 55 = .ok (.getfield 57, 3) := by decide +kernel
theorem dX5_laid_58 : decode cX5_laid 58 = .ok (.iload_n 1, 1) := by decide +kernel
theorem dX5_laid_59 : decode cX5_laid 59 = .ok (.iload 5, 2) := by decide +kernel
theorem dX5_laid_61 : decode cX5_laid 61 = .ok (.iconst 1, 1) := by decide +kernel
theorem dX5_laid_62 : decode cX5_laid 62 = .ok (.iand, 1) := by decide +kernel
theorem dX5_laid_63 : decode cX5_laid 63 = .ok (.iastore, 1) := by decide +kernel
theorem dX5_laid_64 : decode cX5_laid 64 = .ok (.aload_n 0, 1) := by decide +kernel
theorem dX5_laid_65 : decode cX5_laid 65 = .ok (.getfield 16, 3) := by decide +kernel
theorem dX5_laid_68 : decode cX5_laid 68 = .ok (.getfield 60, 3) := by decide +kernel
theorem dX5_laid_71 : decode cX5_laid 71 = .ok (.iload_n 1, 1) := by decide +kernel
theorem dX5_laid_72 : decode cX5_laid 72 = .ok (.iload 5, 2) := by decide +kernel
theorem dX5_laid_74 : decode cX5_laid 74 = .ok (.iconst 1, 1) := by decide +kernel
theorem dX5_laid_75 : decode cX5_laid 75 = .ok (.ishr, 1) := by decide +kernel
theorem dX5_laid_76 : decode cX5_laid 76 = .ok (.iastore, 1) := by decide +kernel
theorem dX5_laid_77 : decode cX5_laid 77 = .ok (.aload_n 0, 1) := by decide +kernel
theorem dX5_laid_78 : decode cX5_laid 78 = .ok (.getfield 16, 3) := by decide +kernel
theorem dX5_laid_81 : decode cX5_laid 81 = .ok (.iload_n 2, 1) := by decide +kernel
theorem dX5_laid_82 : decode cX5_laid 82 = .ok (.invokevirtual 146, 3) := by decide +kernel
theorem dX5_laid_85 : decode cX5_laid 85 = .ok (.aload_n 0, 1) := by decide +kernel
theorem dX5_laid_86 : decode cX5_laid 86 = .ok (.getfield 16, 3) := by decide +kernel
theorem dX5_laid_89 : decode cX5_laid 89 = .ok (.invokevirtual 80, 3) := by decide +kernel
theorem dX5_laid_92 : decode cX5_laid 92 = .ok (.istore 6, 2) := by decide +kernel
theorem dX5_laid_94 : decode cX5_laid 94 = .ok (.iload 6, 2) := by decide +kernel
theorem dX5_laid_96 : decode cX5_laid 96 = .ok (.iload 4, 2) := by decide +kernel
theorem dX5_laid_98 : decode cX5_laid 98 = .ok (.if_icmp .le 10, 3) := by decide +kernel
theorem dX5_laid_101 : decode cX5_laid 101 = .ok (.iload 6, 2) := by decide +kernel
theorem dX5_laid_103 : decode cX5_laid 103 = .ok (.istore 4, 2) := by decide +kernel
theorem dX5_laid_105 : decode cX5_laid 105 = .ok (.iload 5, 2) := by decide +kernel
theorem dX5_laid_107 : decode cX5_laid 107 = .ok (.istore_n 3, 1) := by decide +kernel
theorem dX5_laid_108 : decode cX5_laid 108 = .ok (.iinc 5 1, 3) := by decide +kernel
theorem dX5_laid_111 : decode cX5_laid 111 = .ok (.goto (-77), 3) := by decide +kernel
theorem dX5_laid_114 : decode cX5_laid 114 = .ok (.iload_n 3, 1) := by decide +kernel
theorem dX5_laid_115 : decode cX5_laid 115 = .ok (.ireturn, 1) := by decide +kernel
set_option maxRecDepth 20000 in
theorem ggX5_knife_X5_within : GoodIn wsX5_knife wsX5_within := goodIn_r _ [8] (by decide +kernel) (by decide +kernel)
set_option maxRecDepth 20000 in
theorem gX5_knife_X5_within : GoodIn wsX5_knife (va_wsS RX5 48 yX5_within wsX5_within) := goodIn_app (goodIn_of _ (by decide +kernel)) ggX5_knife_X5_within
set_option maxRecDepth 20000 in
theorem ggX5_knife_X5_found : GoodIn wsX5_knife wsX5_found := goodIn_r _ [12, 1, 13, 119, 120, 121, 122, 123, 124, 125] (by decide +kernel) (by decide +kernel)
set_option maxRecDepth 20000 in
theorem gX5_knife_X5_found : GoodIn wsX5_knife (wsV RX5 53 RX5 yX5_found wsX5_found) := goodIn_app (goodIn_of _ (by decide +kernel)) ggX5_knife_X5_found
set_option maxRecDepth 20000 in
theorem ggX5_knife_X3_become : GoodIn wsX5_knife wsX3_become := goodIn_r _ [18, 19, 20, 21, 22, 23, 24, 25, 26, 27, 28, 29, 30, 31, 32, 33, 126, 127, 128, 129, 130, 131, 132, 133, 134, 135, 136, 137, 138] (by decide +kernel) (by decide +kernel)
set_option maxRecDepth 20000 in
theorem gX5_knife_X3_become : GoodIn wsX5_knife (wsV RX5 150 RX3 yX3_become wsX3_become) := goodIn_app (goodIn_of _ (by decide +kernel)) ggX5_knife_X3_become
set_option maxRecDepth 20000 in
theorem ggX5_knife_X3_serve : GoodIn wsX5_knife wsX3_serve := goodIn_r _ [37, 38, 39, 40, 17, 41, 28, 42, 43, 44, 45, 46, 47, 30, 29, 20, 25, 26, 48, 49, 50, 51, 27, 52, 53, 54, 55, 56, 57, 58, 59, 60, 61, 62, 63, 64, 65, 66, 67, 68, 69, 70, 71, 72, 73, 74, 75, 76, 77, 78, 79, 80, 81, 82, 83, 84, 85, 86, 31, 87, 88, 89, 90, 91, 92, 93, 32, 33, 19, 94, 95, 96, 97, 98, 99, 100, 101, 102, 103, 104, 105, 106, 107, 108, 109, 110, 111, 126, 127, 128, 129, 130, 131, 132, 133, 134, 135, 136, 137, 138] (by decide +kernel) (by decide +kernel)
set_option maxRecDepth 20000 in
theorem gX5_knife_X3_serve : GoodIn wsX5_knife (wsV RX5 146 RX3 yX3_serve wsX3_serve) := goodIn_app (goodIn_of _ (by decide +kernel)) ggX5_knife_X3_serve
set_option maxRecDepth 20000 in
theorem ggX5_knife_X3_easeOfAll : GoodIn wsX5_knife wsX3_easeOfAll := goodIn_r _ [115, 31, 28, 116, 117, 17, 118, 126, 127, 128, 129, 130, 131, 132, 133, 134, 135, 136, 137, 138] (by decide +kernel) (by decide +kernel)
set_option maxRecDepth 20000 in
theorem gX5_knife_X3_easeOfAll : GoodIn wsX5_knife (wsV RX5 80 RX3 yX3_easeOfAll wsX3_easeOfAll) := goodIn_app (goodIn_of _ (by decide +kernel)) ggX5_knife_X3_easeOfAll
theorem dX5_knife_0 : decode cX5_knife 0 = .ok (.iload_n 1, 1) := by decide +kernel
theorem dX5_knife_1 : decode cX5_knife 1 = .ok (.iconst 1, 1) := by decide +kernel
theorem dX5_knife_2 : decode cX5_knife 2 = .ok (.bipush 40, 2) := by decide +kernel
theorem dX5_knife_4 : decode cX5_knife 4 = .ok (.invokestatic 48, 3) := by decide +kernel
theorem dX5_knife_7 : decode cX5_knife 7 = .ok (.ifCond .ne 10, 3) := by decide +kernel
theorem dX5_knife_10 : decode cX5_knife 10 = .ok (.aload_n 0, 1) := by decide +kernel
theorem dX5_knife_11 : decode cX5_knife 11 = .ok (.ldc 52, 2) := by decide +kernel
theorem dX5_knife_13 : decode cX5_knife 13 = .ok (.invokevirtual 53, 3) := by decide +kernel
theorem dX5_knife_16 : decode cX5_knife 16 = .ok (.ireturn, 1) := by decide +kernel
theorem dX5_knife_17 : decode cX5_knife 17 = .ok (.iconst 0, 1) := by decide +kernel
theorem dX5_knife_18 : decode cX5_knife 18 = .ok (.istore_n 2, 1) := by decide +kernel
theorem dX5_knife_19 : decode cX5_knife 19 = .ok (.sipush (-1000), 3) := by decide +kernel
theorem dX5_knife_22 : decode cX5_knife 22 = .ok (.istore_n 3, 1) := by decide +kernel
theorem dX5_knife_23 : decode cX5_knife 23 = .ok (.iconst 0, 1) := by decide +kernel
theorem dX5_knife_24 : decode cX5_knife 24 = .ok (.istore 4, 2) := by decide +kernel
theorem dX5_knife_26 : decode cX5_knife 26 = .ok (.iload 4, 2) := by decide +kernel
theorem dX5_knife_28 : decode cX5_knife 28 = .ok (.bipush 10, 2) := by decide +kernel
theorem dX5_knife_30 : decode cX5_knife 30 = .ok (.if_icmp .ge 71, 3) := by decide +kernel
theorem dX5_knife_33 : decode cX5_knife 33 = .ok (.aload_n 0, 1) := by decide +kernel
theorem dX5_knife_34 : decode cX5_knife 34 = .ok (.getfield 16, 3) := by decide +kernel
theorem dX5_knife_37 : decode cX5_knife 37 = .ok (.aload_n 0, 1) := by decide +kernel
theorem dX5_knife_38 : decode cX5_knife 38 = .ok (.getfield 10, 3) := by decide +kernel
theorem dX5_knife_41 : decode cX5_knife 41 = .ok (.invokevirtual 150, 3) := by decide +kernel
theorem dX5_knife_44 : decode cX5_knife 44 = .ok (.aload_n 0, 1) := by decide +kernel
theorem dX5_knife_45 : decode cX5_knife 45 = .ok (.getfield 16, 3) := by decide +kernel
theorem dX5_knife_48 : decode cX5_knife 48 = .ok (.getfield 57, 3) := by decide +kernel
theorem dX5_knife_51 : decode cX5_knife 51 = .ok (.iload 4, 2) := by decide +kernel
theorem dX5_knife_53 : decode cX5_knife 53 = .ok (.iconst 1, 1) := by decide +kernel
theorem dX5_knife_54 : decode cX5_knife 54 = .ok (.aload_n 0, 1) := by decide +kernel
theorem dX5_knife_55 : decode cX5_knife 55 = .ok (.getfield 16, 3) := by decide +kernel
theorem dX5_knife_58 : decode cX5_knife 58 = .ok (.getfield 57, 3) := by decide +kernel
theorem dX5_knife_61 : decode cX5_knife 61 = .ok (.iload 4, 2) := by decide +kernel
theorem dX5_knife_63 : decode cX5_knife 63 = .ok (.iaload, 1) := by decide +kernel
theorem dX5_knife_64 : decode cX5_knife 64 = .ok (.isub, 1) := by decide +kernel
theorem dX5_knife_65 : decode cX5_knife 65 = .ok (.iastore, 1) := by decide +kernel
theorem dX5_knife_66 : decode cX5_knife 66 = .ok (.aload_n 0, 1) := by decide +kernel
theorem dX5_knife_67 : decode cX5_knife 67 = .ok (.getfield 16, 3) := by decide +kernel
theorem dX5_knife_70 : decode cX5_knife 70 = .ok (.iload_n 1, 1) := by decide +kernel
theorem dX5_knife_71 : decode cX5_knife 71 = .ok (.invokevirtual 146, 3) := by decide +kernel
theorem dX5_knife_74 : decode cX5_knife 74 = .ok (.aload_n 0, 1) := by decide +kernel
theorem dX5_knife_75 : decode cX5_knife 75 = .ok (.getfield 16, 3) := by decide +kernel
theorem dX5_knife_78 : decode cX5_knife 78 = .ok (.invokevirtual 80, 3) := by decide +kernel
theorem dX5_knife_81 : decode cX5_knife 81 = .ok (.istore 5, 2) := by decide +kernel
theorem dX5_knife_83 : decode cX5_knife 83 = .ok (.iload 5, 2) := by decide +kernel
theorem dX5_knife_85 : decode cX5_knife 85 = .ok (.iload_n 3, 1) := by decide +kernel
theorem dX5_knife_86 : decode cX5_knife 86 = .ok (.if_icmp .le 9, 3) := by decide +kernel
theorem dX5_knife_89 : decode cX5_knife 89 = .ok (.iload 5, 2) := by decide +kernel
theorem dX5_knife_91 : decode cX5_knife 91 = .ok (.istore_n 3, 1) := by decide +kernel
theorem dX5_knife_92 : decode cX5_knife 92 = .ok (.iload 4, 2) := by decide +kernel
theorem dX5_knife_94 : decode cX5_knife 94 = .ok (.istore_n 2, 1) := by decide +kernel
theorem dX5_knife_95 : decode cX5_knife 95 = .ok (.iinc 4 1, 3) := by decide +kernel
theorem dX5_knife_98 : decode cX5_knife 98 = .ok (.goto (-72), 3) := by decide +kernel
theorem dX5_knife_101 : decode cX5_knife 101 = .ok (.iload_n 2, 1) := by decide +kernel
theorem dX5_knife_102 : decode cX5_knife 102 = .ok (.ireturn, 1) := by decide +kernel
set_option maxRecDepth 20000 in
theorem ggX5_kind_X3_has : GoodIn wsX5_kind wsX3_has := goodIn_r _ [10, 11, 124, 125, 126, 127, 128, 129, 130, 131, 132, 133, 134, 135, 136] (by decide +kernel) (by decide +kernel)
set_option maxRecDepth 20000 in
theorem gX5_kind_X3_has : GoodIn wsX5_kind (wsV RX5 98 RX3 yX3_has wsX3_has) := goodIn_app (goodIn_of _ (by decide +kernel)) ggX5_kind_X3_has
set_option maxRecDepth 20000 in
theorem ggX5_kind_X5_within : GoodIn wsX5_kind wsX5_within := goodIn_r _ [15] (by decide +kernel) (by decide +kernel)
set_option maxRecDepth 20000 in
theorem gX5_kind_X5_within : GoodIn wsX5_kind (va_wsS RX5 48 yX5_within wsX5_within) := goodIn_app (goodIn_of _ (by decide +kernel)) ggX5_kind_X5_within
set_option maxRecDepth 20000 in
theorem ggX5_kind_X5_found : GoodIn wsX5_kind wsX5_found := goodIn_r _ [19, 2, 20, 117, 118, 119, 120, 121, 122, 123] (by decide +kernel) (by decide +kernel)
set_option maxRecDepth 20000 in
theorem gX5_kind_X5_found : GoodIn wsX5_kind (wsV RX5 53 RX5 yX5_found wsX5_found) := goodIn_app (goodIn_of _ (by decide +kernel)) ggX5_kind_X5_found
set_option maxRecDepth 20000 in
theorem ggX5_kind_X3_become : GoodIn wsX5_kind wsX3_become := goodIn_r _ [24, 25, 26, 27, 28, 29, 30, 31, 32, 33, 11, 34, 35, 36, 37, 38, 124, 125, 126, 127, 128, 129, 130, 131, 132, 133, 134, 135, 136] (by decide +kernel) (by decide +kernel)
set_option maxRecDepth 20000 in
theorem gX5_kind_X3_become : GoodIn wsX5_kind (wsV RX5 150 RX3 yX3_become wsX3_become) := goodIn_app (goodIn_of _ (by decide +kernel)) ggX5_kind_X3_become
set_option maxRecDepth 20000 in
theorem ggX5_kind_X3_serve : GoodIn wsX5_kind wsX3_serve := goodIn_r _ [42, 43, 44, 45, 9, 46, 11, 47, 48, 49, 50, 51, 52, 35, 34, 26, 31, 32, 53, 54, 55, 56, 33, 57, 58, 59, 60, 61, 62, 63, 64, 65, 66, 67, 68, 69, 70, 71, 72, 73, 74, 75, 76, 77, 78, 79, 80, 81, 82, 83, 84, 85, 86, 87, 88, 89, 90, 91, 36, 92, 93, 94, 95, 96, 97, 98, 37, 38, 25, 99, 100, 101, 102, 103, 104, 105, 106, 107, 108, 109, 110, 111, 112, 113, 114, 115, 116, 124, 125, 126, 127, 128, 129, 130, 131, 132, 133, 134, 135, 136] (by decide +kernel) (by decide +kernel)
set_option maxRecDepth 20000 in
theorem gX5_kind_X3_serve : GoodIn wsX5_kind (wsV RX5 146 RX3 yX3_serve wsX3_serve) := goodIn_app (goodIn_of _ (by decide +kernel)) ggX5_kind_X3_serve
theorem dX5_kind_0 : decode cX5_kind 0 = .ok (.aload_n 0, 1) := by decide +kernel
theorem dX5_kind_1 : decode cX5_kind 1 = .ok (.getfield 10, 3) := by decide +kernel
theorem dX5_kind_4 : decode cX5_kind 4 = .ok (.iload_n 1, 1) := by decide +kernel
theorem dX5_kind_5 : decode cX5_kind 5 = .ok (.invokevirtual 98, 3) := by decide +kernel
theorem dX5_kind_8 : decode cX5_kind 8 = .ok (.ifCond .eq 13, 3) := by decide +kernel
theorem dX5_kind_11 : decode cX5_kind 11 = .ok (.iload_n 2, 1) := by decide +kernel
theorem dX5_kind_12 : decode cX5_kind 12 = .ok (.iconst 1, 1) := by decide +kernel
theorem dX5_kind_13 : decode cX5_kind 13 = .ok (.bipush 40, 2) := by decide +kernel
theorem dX5_kind_15 : decode cX5_kind 15 = .ok (.invokestatic 48, 3) := by decide +kernel
theorem dX5_kind_18 : decode cX5_kind 18 = .ok (.ifCond .ne 10, 3) := by decide +kernel
theorem dX5_kind_21 : decode cX5_kind 21 = .ok (.aload_n 0, 1) := by decide +kernel
theorem dX5_kind_22 : decode cX5_kind 22 = .ok (.ldc 52, 2) := by decide +kernel
theorem dX5_kind_24 : decode cX5_kind 24 = .ok (.invokevirtual 53, 3) := by decide +kernel
theorem dX5_kind_27 : decode cX5_kind 27 = .ok (.ireturn, 1) := by decide +kernel
theorem dX5_kind_28 : decode cX5_kind 28 = .ok (.iconst 0, 1) := by decide +kernel
theorem dX5_kind_29 : decode cX5_kind 29 = .ok (.istore_n 3, 1) := by decide +kernel
theorem dX5_kind_30 : decode cX5_kind 30 = .ok (.bipush (-100), 2) := by decide +kernel
theorem dX5_kind_32 : decode cX5_kind 32 = .ok (.istore 4, 2) := by decide +kernel
theorem dX5_kind_34 : decode cX5_kind 34 = .ok (.iconst 0, 1) := by decide +kernel
theorem dX5_kind_35 : decode cX5_kind 35 = .ok (.istore 5, 2) := by decide +kernel
theorem dX5_kind_37 : decode cX5_kind 37 = .ok (.iload 5, 2) := by decide +kernel
theorem dX5_kind_39 : decode cX5_kind 39 = .ok (.bipush 6, 2) := by decide +kernel
theorem dX5_kind_41 : decode cX5_kind 41 = .ok (.if_icmp .ge 67, 3) := by decide +kernel
theorem dX5_kind_44 : decode cX5_kind 44 = .ok (.aload_n 0, 1) := by decide +kernel
theorem dX5_kind_45 : decode cX5_kind 45 = .ok (.getfield 16, 3) := by decide +kernel
theorem dX5_kind_48 : decode cX5_kind 48 = .ok (.aload_n 0, 1) := by decide +kernel
theorem dX5_kind_49 : decode cX5_kind 49 = .ok (.getfield 10, 3) := by decide +kernel
theorem dX5_kind_52 : decode cX5_kind 52 = .ok (.invokevirtual 150, 3) := by decide +kernel
theorem dX5_kind_55 : decode cX5_kind 55 = .ok (.aload_n 0, 1) := by decide +kernel
theorem dX5_kind_56 : decode cX5_kind 56 = .ok (.getfield 16, 3) := by decide +kernel
theorem dX5_kind_59 : decode cX5_kind 59 = .ok (.getfield 101, 3) := by decide +kernel
theorem dX5_kind_62 : decode cX5_kind 62 = .ok (.iload_n 1, 1) := by decide +kernel
theorem dX5_kind_63 : decode cX5_kind 63 = .ok (.iload 5, 2) := by decide +kernel
theorem dX5_kind_65 : decode cX5_kind 65 = .ok (.iastore, 1) := by decide +kernel
theorem dX5_kind_66 : decode cX5_kind 66 = .ok (.aload_n 0, 1) := by decide +kernel
theorem dX5_kind_67 : decode cX5_kind 67 = .ok (.getfield 16, 3) := by decide +kernel
theorem dX5_kind_70 : decode cX5_kind 70 = .ok (.iload_n 2, 1) := by decide +kernel
theorem dX5_kind_71 : decode cX5_kind 71 = .ok (.invokevirtual 146, 3) := by decide +kernel
theorem dX5_kind_74 : decode cX5_kind 74 = .ok (.aload_n 0, 1) := by decide +kernel
theorem dX5_kind_75 : decode cX5_kind 75 = .ok (.getfield 16, 3) := by decide +kernel
theorem dX5_kind_78 : decode cX5_kind 78 = .ok (.getfield 107, 3) := by decide +kernel
theorem dX5_kind_81 : decode cX5_kind 81 = .ok (.iload_n 1, 1) := by decide +kernel
theorem dX5_kind_82 : decode cX5_kind 82 = .ok (.iaload, 1) := by decide +kernel
theorem dX5_kind_83 : decode cX5_kind 83 = .ok (.iload 4, 2) := by decide +kernel
theorem dX5_kind_85 : decode cX5_kind 85 = .ok (.if_icmp .le 17, 3) := by decide +kernel
theorem dX5_kind_88 : decode cX5_kind 88 = .ok (.aload_n 0, 1) := by decide +kernel
theorem dX5_kind_89 : decode cX5_kind 89 = .ok (.getfield 16, 3) := by decide +kernel
theorem dX5_kind_92 : decode cX5_kind 92 = .ok (.getfield 107, 3) := by decide +kernel
theorem dX5_kind_95 : decode cX5_kind 95 = .ok (.iload_n 1, 1) := by decide +kernel
theorem dX5_kind_96 : decode cX5_kind 96 = .ok (.iaload, 1) := by decide +kernel
theorem dX5_kind_97 : decode cX5_kind 97 = .ok (.istore 4, 2) := by decide +kernel
theorem dX5_kind_99 : decode cX5_kind 99 = .ok (.iload 5, 2) := by decide +kernel
theorem dX5_kind_101 : decode cX5_kind 101 = .ok (.istore_n 3, 1) := by decide +kernel
theorem dX5_kind_102 : decode cX5_kind 102 = .ok (.iinc 5 1, 3) := by decide +kernel
theorem dX5_kind_105 : decode cX5_kind 105 = .ok (.goto (-68), 3) := by decide +kernel
theorem dX5_kind_108 : decode cX5_kind 108 = .ok (.iload_n 3, 1) := by decide +kernel
theorem dX5_kind_109 : decode cX5_kind 109 = .ok (.ireturn, 1) := by decide +kernel
set_option maxRecDepth 20000 in
theorem ggX5_spoon_X5_isPlace : GoodIn wsX5_spoon wsX5_isPlace := goodIn_r _ [9] (by decide +kernel) (by decide +kernel)
set_option maxRecDepth 20000 in
theorem gX5_spoon_X5_isPlace : GoodIn wsX5_spoon (va_wsS RX5 44 yX5_isPlace wsX5_isPlace) := goodIn_app (goodIn_of _ (by decide +kernel)) ggX5_spoon_X5_isPlace
set_option maxRecDepth 20000 in
theorem ggX5_spoon_X5_within : GoodIn wsX5_spoon wsX5_within := goodIn_r _ [12] (by decide +kernel) (by decide +kernel)
set_option maxRecDepth 20000 in
theorem gX5_spoon_X5_within : GoodIn wsX5_spoon (va_wsS RX5 48 yX5_within wsX5_within) := goodIn_app (goodIn_of _ (by decide +kernel)) ggX5_spoon_X5_within
set_option maxRecDepth 20000 in
theorem ggX5_spoon_X5_found : GoodIn wsX5_spoon wsX5_found := goodIn_r _ [16, 1, 17, 123, 124, 125, 126, 127, 128, 129] (by decide +kernel) (by decide +kernel)
set_option maxRecDepth 20000 in
theorem gX5_spoon_X5_found : GoodIn wsX5_spoon (wsV RX5 53 RX5 yX5_found wsX5_found) := goodIn_app (goodIn_of _ (by decide +kernel)) ggX5_spoon_X5_found
set_option maxRecDepth 20000 in
theorem ggX5_spoon_X3_become : GoodIn wsX5_spoon wsX3_become := goodIn_r _ [22, 23, 24, 25, 26, 27, 28, 29, 30, 31, 32, 33, 34, 35, 36, 37, 130, 131, 132, 133, 134, 135, 136, 137, 138, 139, 140, 141, 142] (by decide +kernel) (by decide +kernel)
set_option maxRecDepth 20000 in
theorem gX5_spoon_X3_become : GoodIn wsX5_spoon (wsV RX5 150 RX3 yX3_become wsX3_become) := goodIn_app (goodIn_of _ (by decide +kernel)) ggX5_spoon_X3_become
set_option maxRecDepth 20000 in
theorem ggX5_spoon_X3_serve : GoodIn wsX5_spoon wsX3_serve := goodIn_r _ [41, 42, 43, 44, 21, 45, 32, 46, 47, 48, 49, 50, 51, 34, 33, 24, 29, 30, 52, 53, 54, 55, 31, 56, 57, 58, 59, 60, 61, 62, 63, 64, 65, 66, 67, 68, 69, 70, 71, 72, 73, 74, 75, 76, 77, 78, 79, 80, 81, 82, 83, 84, 85, 86, 87, 88, 89, 90, 35, 91, 92, 93, 94, 95, 96, 97, 36, 37, 23, 98, 99, 100, 101, 102, 103, 104, 105, 106, 107, 108, 109, 110, 111, 112, 113, 114, 115, 130, 131, 132, 133, 134, 135, 136, 137, 138, 139, 140, 141, 142] (by decide +kernel) (by decide +kernel)
set_option maxRecDepth 20000 in
theorem gX5_spoon_X3_serve : GoodIn wsX5_spoon (wsV RX5 146 RX3 yX3_serve wsX3_serve) := goodIn_app (goodIn_of _ (by decide +kernel)) ggX5_spoon_X3_serve
set_option maxRecDepth 20000 in
theorem ggX5_spoon_X3_easeOfAll : GoodIn wsX5_spoon wsX3_easeOfAll := goodIn_r _ [119, 35, 32, 120, 121, 21, 122, 130, 131, 132, 133, 134, 135, 136, 137, 138, 139, 140, 141, 142] (by decide +kernel) (by decide +kernel)
set_option maxRecDepth 20000 in
theorem gX5_spoon_X3_easeOfAll : GoodIn wsX5_spoon (wsV RX5 80 RX3 yX3_easeOfAll wsX3_easeOfAll) := goodIn_app (goodIn_of _ (by decide +kernel)) ggX5_spoon_X3_easeOfAll
theorem dX5_spoon_0 : decode cX5_spoon 0 = .ok (.iload_n 1, 1) := by decide +kernel
theorem dX5_spoon_1 : decode cX5_spoon 1 = .ok (.invokestatic 44, 3) := by decide +kernel
theorem dX5_spoon_4 : decode cX5_spoon 4 = .ok (.ifCond .eq 26, 3) := by decide +kernel
theorem dX5_spoon_7 : decode cX5_spoon 7 = .ok (.iload_n 2, 1) := by decide +kernel
theorem dX5_spoon_8 : decode cX5_spoon 8 = .ok (.iconst 1, 1) := by decide +kernel
theorem dX5_spoon_9 : decode cX5_spoon 9 = .ok (.bipush 40, 2) := by decide +kernel
theorem dX5_spoon_11 : decode cX5_spoon 11 = .ok (.invokestatic 48, 3) := by decide +kernel
theorem dX5_spoon_14 : decode cX5_spoon 14 = .ok (.ifCond .eq 16, 3) := by decide +kernel
theorem dX5_spoon_17 : decode cX5_spoon 17 = .ok (.iload_n 3, 1) := by decide +kernel
theorem dX5_spoon_18 : decode cX5_spoon 18 = .ok (.sipush (-999), 3) := by decide +kernel
theorem dX5_spoon_21 : decode cX5_spoon 21 = .ok (.sipush 999, 3) := by decide +kernel
theorem dX5_spoon_24 : decode cX5_spoon 24 = .ok (.invokestatic 48, 3) := by decide +kernel
theorem dX5_spoon_27 : decode cX5_spoon 27 = .ok (.ifCond .ne 10, 3) := by decide +kernel
theorem dX5_spoon_30 : decode cX5_spoon 30 = .ok (.aload_n 0, 1) := by decide +kernel
theorem dX5_spoon_31 : decode cX5_spoon 31 = .ok (.ldc 52, 2) := by decide +kernel
theorem dX5_spoon_33 : decode cX5_spoon 33 = .ok (.invokevirtual 53, 3) := by decide +kernel
theorem dX5_spoon_36 : decode cX5_spoon 36 = .ok (.ireturn, 1) := by decide +kernel
theorem dX5_spoon_37 : decode cX5_spoon 37 = .ok (.bipush 9, 2) := by decide +kernel
theorem dX5_spoon_39 : decode cX5_spoon 39 = .ok (.istore 4, 2) := by decide +kernel
theorem dX5_spoon_41 : decode cX5_spoon 41 = .ok (.iload 4, 2) := by decide +kernel
theorem dX5_spoon_43 : decode cX5_spoon 43 = .ok (.ifCond .lt 53, 3) := by decide +kernel
theorem dX5_spoon_46 : decode cX5_spoon 46 = .ok (.aload_n 0, 1) := by decide +kernel
theorem dX5_spoon_47 : decode cX5_spoon 47 = .ok (.getfield 16, 3) := by decide +kernel
theorem dX5_spoon_50 : decode cX5_spoon 50 = .ok (.aload_n 0, 1) := by decide +kernel
theorem dX5_spoon_51 : decode cX5_spoon 51 = .ok (.getfield 10, 3) := by decide +kernel
theorem dX5_spoon_54 : decode cX5_spoon 54 = .ok (.invokevirtual 150, 3) := by decide +kernel
theorem dX5_spoon_57 : decode cX5_spoon 57 = .ok (.aload_n 0, 1) := by decide +kernel
theorem dX5_spoon_58 : decode cX5_spoon 58 = .ok (.getfield 16, 3) := by decide +kernel
theorem dX5_spoon_61 : decode cX5_spoon 61 = .ok (.getfield 63, 3) := by decide +kernel
theorem dX5_spoon_64 : decode cX5_spoon 64 = .ok (.iload_n 1, 1) := by decide +kernel
theorem dX5_spoon_65 : decode cX5_spoon 65 = .ok (.iload 4, 2) := by decide +kernel
theorem dX5_spoon_67 : decode cX5_spoon 67 = .ok (.iastore, 1) := by decide +kernel
theorem dX5_spoon_68 : decode cX5_spoon 68 = .ok (.aload_n 0, 1) := by decide +kernel
theorem dX5_spoon_69 : decode cX5_spoon 69 = .ok (.getfield 16, 3) := by decide +kernel
theorem dX5_spoon_72 : decode cX5_spoon 72 = .ok (.iload_n 2, 1) := by decide +kernel
theorem dX5_spoon_73 : decode cX5_spoon 73 = .ok (.invokevirtual 146, 3) := by decide +kernel
theorem dX5_spoon_76 : decode cX5_spoon 76 = .ok (.aload_n 0, 1) := by decide +kernel
theorem dX5_spoon_77 : decode cX5_spoon 77 = .ok (.getfield 16, 3) := by decide +kernel
theorem dX5_spoon_80 : decode cX5_spoon 80 = .ok (.invokevirtual 80, 3) := by decide +kernel
theorem dX5_spoon_83 : decode cX5_spoon 83 = .ok (.iload_n 3, 1) := by decide +kernel
theorem dX5_spoon_84 : decode cX5_spoon 84 = .ok (.if_icmp .lt 6, 3) := by decide +kernel
theorem dX5_spoon_87 : decode cX5_spoon 87 = .ok (.iload 4, 2) := by decide +kernel
theorem dX5_spoon_89 : decode cX5_spoon 89 = .ok (.ireturn, 1) := by decide +kernel
theorem dX5_spoon_90 : decode cX5_spoon 90 = .ok (.iinc 4 (-1), 3) := by decide +kernel
theorem dX5_spoon_93 : decode cX5_spoon 93 = .ok (.goto (-52), 3) := by decide +kernel
theorem dX5_spoon_96 : decode cX5_spoon 96 = .ok (.aload_n 0, 1) := by decide +kernel
theorem dX5_spoon_97 : decode cX5_spoon 97 = .ok (.ldc 160, 2) := by decide +kernel
theorem dX5_spoon_99 : decode cX5_spoon 99 = .ok (.invokevirtual 53, 3) := by decide +kernel
theorem dX5_spoon_102 : decode cX5_spoon 102 = .ok (.ireturn, 1) := by decide +kernel
set_option maxRecDepth 20000 in
theorem ggX5_change_X5_within : GoodIn wsX5_change wsX5_within := goodIn_r _ [9] (by decide +kernel) (by decide +kernel)
set_option maxRecDepth 20000 in
theorem gX5_change_X5_within : GoodIn wsX5_change (va_wsS RX5 48 yX5_within wsX5_within) := goodIn_app (goodIn_of _ (by decide +kernel)) ggX5_change_X5_within
set_option maxRecDepth 20000 in
theorem ggX5_change_X5_found : GoodIn wsX5_change wsX5_found := goodIn_r _ [13, 1, 14, 124, 125, 126, 127, 128, 129, 130] (by decide +kernel) (by decide +kernel)
set_option maxRecDepth 20000 in
theorem gX5_change_X5_found : GoodIn wsX5_change (wsV RX5 53 RX5 yX5_found wsX5_found) := goodIn_app (goodIn_of _ (by decide +kernel)) ggX5_change_X5_found
set_option maxRecDepth 20000 in
theorem ggX5_change_X3_become : GoodIn wsX5_change wsX3_become := goodIn_r _ [19, 20, 21, 22, 23, 24, 25, 26, 27, 28, 29, 30, 31, 32, 33, 34, 131, 132, 133, 134, 135, 136, 137, 138, 139, 140, 141, 142, 143] (by decide +kernel) (by decide +kernel)
set_option maxRecDepth 20000 in
theorem gX5_change_X3_become : GoodIn wsX5_change (wsV RX5 150 RX3 yX3_become wsX3_become) := goodIn_app (goodIn_of _ (by decide +kernel)) ggX5_change_X3_become
set_option maxRecDepth 20000 in
theorem ggX5_change_X3_serve : GoodIn wsX5_change wsX3_serve := goodIn_r _ [38, 39, 40, 41, 18, 42, 29, 43, 44, 45, 46, 47, 48, 31, 30, 21, 26, 27, 49, 50, 51, 52, 28, 53, 54, 55, 56, 57, 58, 59, 60, 61, 62, 63, 64, 65, 66, 67, 68, 69, 70, 71, 72, 73, 74, 75, 76, 77, 78, 79, 80, 81, 82, 83, 84, 85, 86, 87, 32, 88, 89, 90, 91, 92, 93, 94, 33, 34, 20, 95, 96, 97, 98, 99, 100, 101, 102, 103, 104, 105, 106, 107, 108, 109, 110, 111, 112, 131, 132, 133, 134, 135, 136, 137, 138, 139, 140, 141, 142, 143] (by decide +kernel) (by decide +kernel)
set_option maxRecDepth 20000 in
theorem gX5_change_X3_serve : GoodIn wsX5_change (wsV RX5 146 RX3 yX3_serve wsX3_serve) := goodIn_app (goodIn_of _ (by decide +kernel)) ggX5_change_X3_serve
set_option maxRecDepth 20000 in
theorem ggX5_change_X3_quarrelsOfAll : GoodIn wsX5_change wsX3_quarrelsOfAll := goodIn_r _ [116, 34, 29, 117, 118, 18, 119, 131, 132, 133, 134, 135, 136, 137, 138, 139, 140, 141, 142, 143] (by decide +kernel) (by decide +kernel)
set_option maxRecDepth 20000 in
theorem gX5_change_X3_quarrelsOfAll : GoodIn wsX5_change (wsV RX5 164 RX3 yX3_quarrelsOfAll wsX3_quarrelsOfAll) := goodIn_app (goodIn_of _ (by decide +kernel)) ggX5_change_X3_quarrelsOfAll
set_option maxRecDepth 20000 in
theorem ggX5_change_X3_exchange : GoodIn wsX5_change wsX3_exchange := goodIn_r _ [123, 31, 28, 131, 132, 133, 134, 135, 136, 137, 138, 139, 140, 141, 142, 143] (by decide +kernel) (by decide +kernel)
set_option maxRecDepth 20000 in
theorem gX5_change_X3_exchange : GoodIn wsX5_change (wsV RX5 138 RX3 yX3_exchange wsX3_exchange) := goodIn_app (goodIn_of _ (by decide +kernel)) ggX5_change_X3_exchange
theorem dX5_change_0 : decode cX5_change 0 = .ok (.iload_n 1, 1) := by decide +kernel
theorem dX5_change_1 : decode cX5_change 1 = .ok (.iconst 1, 1) := by decide +kernel
theorem dX5_change_2 : decode cX5_change 2 = .ok (.bipush 40, 2) := by decide +kernel
theorem dX5_change_4 : decode cX5_change 4 = .ok (.invokestatic 48, 3) := by decide +kernel
theorem dX5_change_7 : decode cX5_change 7 = .ok (.ifCond .ne 10, 3) := by decide +kernel
theorem dX5_change_10 : decode cX5_change 10 = .ok (.aload_n 0, 1) := by decide +kernel
theorem dX5_change_11 : decode cX5_change 11 = .ok (.ldc 52, 2) := by decide +kernel
theorem dX5_change_13 : decode cX5_change 13 = .ok (.invokevirtual 53, 3) := by decide +kernel
theorem dX5_change_16 : decode cX5_change 16 = .ok (.ireturn, 1) := by decide +kernel
theorem dX5_change_17 : decode cX5_change 17 = .ok (.aload_n 0, 1) := by decide +kernel
theorem dX5_change_18 : decode cX5_change 18 = .ok (.getfield 16, 3) := by decide +kernel
theorem dX5_change_21 : decode cX5_change 21 = .ok (.aload_n 0, 1) := by decide +kernel
theorem dX5_change_22 : decode cX5_change 22 = .ok (.getfield 10, 3) := by decide +kernel
theorem dX5_change_25 : decode cX5_change 25 = .ok (.invokevirtual 150, 3) := by decide +kernel
theorem dX5_change_28 : decode cX5_change 28 = .ok (.aload_n 0, 1) := by decide +kernel
theorem dX5_change_29 : decode cX5_change 29 = .ok (.getfield 16, 3) := by decide +kernel
theorem dX5_change_32 : decode cX5_change 32 = .ok (.iload_n 1, 1) := by decide +kernel
theorem dX5_change_33 : decode cX5_change 33 = .ok (.invokevirtual 146, 3) := by decide +kernel
theorem dX5_change_36 : decode cX5_change 36 = .ok (.aload_n 0, 1) := by decide +kernel
theorem dX5_change_37 : decode cX5_change 37 = .ok (.getfield 16, 3) := by decide +kernel
theorem dX5_change_40 : decode cX5_change 40 = .ok (.invokevirtual 164, 3) := by decide +kernel
theorem dX5_change_43 : decode cX5_change 43 = .ok (.istore_n 2, 1) := by decide +kernel
theorem dX5_change_44 : decode cX5_change 44 = .ok (.ldc 160, 2) := by decide +kernel
theorem dX5_change_46 : decode cX5_change 46 = .ok (.istore_n 3, 1) := by decide +kernel
theorem dX5_change_47 : decode cX5_change 47 = .ok (.iconst 0, 1) := by decide +kernel
theorem dX5_change_48 : decode cX5_change 48 = .ok (.istore 4, 2) := by decide +kernel
theorem dX5_change_50 : decode cX5_change 50 = .ok (.iload 4, 2) := by decide +kernel
theorem dX5_change_52 : decode cX5_change 52 = .ok (.aload_n 0, 1) := by decide +kernel
theorem dX5_change_53 : decode cX5_change 53 = .ok (.getfield 10, 3) := by decide +kernel
theorem dX5_change_56 : decode cX5_change 56 = .ok (.getfield 89, 3) := by decide +kernel
theorem dX5_change_59 : decode cX5_change 59 = .ok (.if_icmp .ge 91, 3) := by decide +kernel
theorem dX5_change_62 : decode cX5_change 62 = .ok (.iload 4, 2) := by decide +kernel
theorem dX5_change_64 : decode cX5_change 64 = .ok (.iconst 1, 1) := by decide +kernel
theorem dX5_change_65 : decode cX5_change 65 = .ok (.iadd, 1) := by decide +kernel
theorem dX5_change_66 : decode cX5_change 66 = .ok (.istore 5, 2) := by decide +kernel
theorem dX5_change_68 : decode cX5_change 68 = .ok (.iload 5, 2) := by decide +kernel
theorem dX5_change_70 : decode cX5_change 70 = .ok (.aload_n 0, 1) := by decide +kernel
theorem dX5_change_71 : decode cX5_change 71 = .ok (.getfield 10, 3) := by decide +kernel
theorem dX5_change_74 : decode cX5_change 74 = .ok (.getfield 89, 3) := by decide +kernel
theorem dX5_change_77 : decode cX5_change 77 = .ok (.if_icmp .ge 67, 3) := by decide +kernel
theorem dX5_change_80 : decode cX5_change 80 = .ok (.aload_n 0, 1) := by decide +kernel
theorem dX5_change_81 : decode cX5_change 81 = .ok (.getfield 16, 3) := by decide +kernel
theorem dX5_change_84 : decode cX5_change 84 = .ok (.aload_n 0, 1) := by decide +kernel
theorem dX5_change_85 : decode cX5_change 85 = .ok (.getfield 10, 3) := by decide +kernel
theorem dX5_change_88 : decode cX5_change 88 = .ok (.invokevirtual 150, 3) := by decide +kernel
theorem dX5_change_91 : decode cX5_change 91 = .ok (.aload_n 0, 1) := by decide +kernel
theorem dX5_change_92 : decode cX5_change 92 = .ok (.getfield 16, 3) := by decide +kernel
theorem dX5_change_95 : decode cX5_change 95 = .ok (.iload 4, 2) := by decide +kernel
theorem dX5_change_97 : decode cX5_change 97 = .ok (.iload 5, 2) := by decide +kernel
theorem dX5_change_99 : decode cX5_change 99 = .ok (.invokevirtual 138, 3) := by decide +kernel
theorem dX5_change_102 : decode cX5_change 102 = .ok (.aload_n 0, 1) := by decide +kernel
theorem dX5_change_103 : decode cX5_change 103 = .ok (.getfield 16, 3) := by decide +kernel
theorem dX5_change_106 : decode cX5_change 106 = .ok (.iload_n 1, 1) := by decide +kernel
theorem dX5_change_107 : decode cX5_change 107 = .ok (.invokevirtual 146, 3) := by decide +kernel
theorem dX5_change_110 : decode cX5_change 110 = .ok (.aload_n 0, 1) := by decide +kernel
theorem dX5_change_111 : decode cX5_change 111 = .ok (.getfield 16, 3) := by decide +kernel
theorem dX5_change_114 : decode cX5_change 114 = .ok (.invokevirtual 164, 3) := by decide +kernel
theorem dX5_change_117 : decode cX5_change 117 = .ok (.iload_n 2, 1) := by decide +kernel
theorem dX5_change_118 : decode cX5_change 118 = .ok (.if_icmp .ge 20, 3) := by decide +kernel
theorem dX5_change_121 : decode cX5_change 121 = .ok (.aload_n 0, 1) := by decide +kernel
theorem dX5_change_122 : decode cX5_change 122 = .ok (.getfield 16, 3) := by decide +kernel
theorem dX5_change_125 : decode cX5_change 125 = .ok (.invokevirtual 164, 3) := by decide +kernel
theorem dX5_change_128 : decode cX5_change 128 = .ok (.istore_n 2, 1) := by decide +kernel
theorem dX5_change_129 : decode cX5_change 129 = .ok (.bipush 10, 2) := by decide +kernel
theorem dX5_change_131 : decode cX5_change 131 = .ok (.iload 4, 2) := by decide +kernel
theorem dX5_change_133 : decode cX5_change 133 = .ok (.imul, 1) := by decide +kernel
theorem dX5_change_134 : decode cX5_change 134 = .ok (.iload 5, 2) := by decide +kernel
theorem dX5_change_136 : decode cX5_change 136 = .ok (.iadd, 1) := by decide +kernel
theorem dX5_change_137 : decode cX5_change 137 = .ok (.istore_n 3, 1) := by decide +kernel
theorem dX5_change_138 : decode cX5_change 138 = .ok (.iinc 5 1, 3) := by decide +kernel
theorem dX5_change_141 : decode cX5_change 141 = .ok (.goto (-73), 3) := by decide +kernel
theorem dX5_change_144 : decode cX5_change 144 = .ok (.iinc 4 1, 3) := by decide +kernel
theorem dX5_change_147 : decode cX5_change 147 = .ok (.goto (-97), 3) := by decide +kernel
theorem dX5_change_150 : decode cX5_change 150 = .ok (.iload_n 3, 1) := by decide +kernel
theorem dX5_change_151 : decode cX5_change 151 = .ok (.ldc 160, 2) := by decide +kernel
theorem dX5_change_153 : decode cX5_change 153 = .ok (.if_icmp .ne 12, 3) := by decide +kernel
theorem dX5_change_156 : decode cX5_change 156 = .ok (.aload_n 0, 1) := by decide +kernel
theorem dX5_change_157 : decode cX5_change 157 = .ok (.ldc 160, 2) := by decide +kernel
theorem dX5_change_159 : decode cX5_change 159 = .ok (.invokevirtual 53, 3) := by decide +kernel
theorem dX5_change_162 : decode cX5_change 162 = .ok (.goto 4, 3) := by decide +kernel
theorem dX5_change_165 : decode cX5_change 165 = .ok (.iload_n 3, 1) := by decide +kernel
theorem dX5_change_166 : decode cX5_change 166 = .ok (.ireturn, 1) := by decide +kernel
set_option maxRecDepth 20000 in
theorem ggX5_feed_X5_within : GoodIn wsX5_feed wsX5_within := goodIn_r _ [8] (by decide +kernel) (by decide +kernel)
set_option maxRecDepth 20000 in
theorem gX5_feed_X5_within : GoodIn wsX5_feed (va_wsS RX5 48 yX5_within wsX5_within) := goodIn_app (goodIn_of _ (by decide +kernel)) ggX5_feed_X5_within
set_option maxRecDepth 20000 in
theorem ggX5_feed_X5_found : GoodIn wsX5_feed wsX5_found := goodIn_r _ [12, 1, 13, 21, 22, 23, 24, 25, 26, 27] (by decide +kernel) (by decide +kernel)
set_option maxRecDepth 20000 in
theorem gX5_feed_X5_found : GoodIn wsX5_feed (wsV RX5 53 RX5 yX5_found wsX5_found) := goodIn_app (goodIn_of _ (by decide +kernel)) ggX5_feed_X5_found
set_option maxRecDepth 20000 in
theorem ggX5_feed_X4_append : GoodIn wsX5_feed wsX4_append := goodIn_r _ [18, 19, 20, 28, 29, 30, 31, 32, 33] (by decide +kernel) (by decide +kernel)
set_option maxRecDepth 20000 in
theorem gX5_feed_X4_append : GoodIn wsX5_feed (wsV RX5 170 RX4 yX4_append wsX4_append) := goodIn_app (goodIn_of _ (by decide +kernel)) ggX5_feed_X4_append
theorem dX5_feed_0 : decode cX5_feed 0 = .ok (.iload_n 2, 1) := by decide +kernel
theorem dX5_feed_1 : decode cX5_feed 1 = .ok (.iconst 1, 1) := by decide +kernel
theorem dX5_feed_2 : decode cX5_feed 2 = .ok (.iconst 4, 1) := by decide +kernel
theorem dX5_feed_3 : decode cX5_feed 3 = .ok (.invokestatic 48, 3) := by decide +kernel
theorem dX5_feed_6 : decode cX5_feed 6 = .ok (.ifCond .ne 10, 3) := by decide +kernel
theorem dX5_feed_9 : decode cX5_feed 9 = .ok (.aload_n 0, 1) := by decide +kernel
theorem dX5_feed_10 : decode cX5_feed 10 = .ok (.ldc 52, 2) := by decide +kernel
theorem dX5_feed_12 : decode cX5_feed 12 = .ok (.invokevirtual 53, 3) := by decide +kernel
theorem dX5_feed_15 : decode cX5_feed 15 = .ok (.ireturn, 1) := by decide +kernel
theorem dX5_feed_16 : decode cX5_feed 16 = .ok (.aload_n 0, 1) := by decide +kernel
theorem dX5_feed_17 : decode cX5_feed 17 = .ok (.getfield 29, 3) := by decide +kernel
theorem dX5_feed_20 : decode cX5_feed 20 = .ok (.getfield 167, 3) := by decide +kernel
theorem dX5_feed_23 : decode cX5_feed 23 = .ok (.iload_n 2, 1) := by decide +kernel
theorem dX5_feed_24 : decode cX5_feed 24 = .ok (.iadd, 1) := by decide +kernel
theorem dX5_feed_25 : decode cX5_feed 25 = .ok (.bipush 120, 2) := by decide +kernel
theorem dX5_feed_27 : decode cX5_feed 27 = .ok (.if_icmp .le 10, 3) := by decide +kernel
theorem dX5_feed_30 : decode cX5_feed 30 = .ok (.aload_n 0, 1) := by decide +kernel
theorem dX5_feed_31 : decode cX5_feed 31 = .ok (.ldc 92, 2) := by decide +kernel
theorem dX5_feed_33 : decode cX5_feed 33 = .ok (.invokevirtual 53, 3) := by decide +kernel
theorem dX5_feed_36 : decode cX5_feed 36 = .ok (.ireturn, 1) := by decide +kernel
theorem dX5_feed_37 : decode cX5_feed 37 = .ok (.iload_n 2, 1) := by decide +kernel
theorem dX5_feed_38 : decode cX5_feed 38 = .ok (.iconst 1, 1) := by decide +kernel
theorem dX5_feed_39 : decode cX5_feed 39 = .ok (.isub, 1) := by decide +kernel
theorem dX5_feed_40 : decode cX5_feed 40 = .ok (.istore_n 3, 1) := by decide +kernel
theorem dX5_feed_41 : decode cX5_feed 41 = .ok (.iload_n 3, 1) := by decide +kernel
theorem dX5_feed_42 : decode cX5_feed 42 = .ok (.ifCond .lt 26, 3) := by decide +kernel
theorem dX5_feed_45 : decode cX5_feed 45 = .ok (.aload_n 0, 1) := by decide +kernel
theorem dX5_feed_46 : decode cX5_feed 46 = .ok (.getfield 29, 3) := by decide +kernel
theorem dX5_feed_49 : decode cX5_feed 49 = .ok (.iload_n 1, 1) := by decide +kernel
theorem dX5_feed_50 : decode cX5_feed 50 = .ok (.bipush 8, 2) := by decide +kernel
theorem dX5_feed_52 : decode cX5_feed 52 = .ok (.iload_n 3, 1) := by decide +kernel
theorem dX5_feed_53 : decode cX5_feed 53 = .ok (.imul, 1) := by decide +kernel
theorem dX5_feed_54 : decode cX5_feed 54 = .ok (.ishr, 1) := by decide +kernel
theorem dX5_feed_55 : decode cX5_feed 55 = .ok (.sipush 255, 3) := by decide +kernel
theorem dX5_feed_58 : decode cX5_feed 58 = .ok (.iand, 1) := by decide +kernel
theorem dX5_feed_59 : decode cX5_feed 59 = .ok (.invokevirtual 170, 3) := by decide +kernel
theorem dX5_feed_62 : decode cX5_feed 62 = .ok (.iinc 3 (-1), 3) := by decide +kernel
theorem dX5_feed_65 : decode cX5_feed 65 = .ok (.goto (-24), 3) := by decide +kernel
theorem dX5_feed_68 : decode cX5_feed 68 = .ok (.aload_n 0, 1) := by decide +kernel
theorem dX5_feed_69 : decode cX5_feed 69 = .ok (.getfield 29, 3) := by decide +kernel
theorem dX5_feed_72 : decode cX5_feed 72 = .ok (.getfield 167, 3) := by decide +kernel
theorem dX5_feed_75 : decode cX5_feed 75 = .ok (.ireturn, 1) := by decide +kernel
set_option maxRecDepth 20000 in
theorem ggX5_wipe_X4_empty : GoodIn wsX5_wipe wsX4_empty := goodIn_r _ [6, 7, 15, 16, 17, 18, 19, 20] (by decide +kernel) (by decide +kernel)
set_option maxRecDepth 20000 in
theorem gX5_wipe_X4_empty : GoodIn wsX5_wipe (wsV RX5 173 RX4 yX4_empty wsX4_empty) := goodIn_app (goodIn_of _ (by decide +kernel)) ggX5_wipe_X4_empty
theorem dX5_wipe_0 : decode cX5_wipe 0 = .ok (.aload_n 0, 1) := by decide +kernel
theorem dX5_wipe_1 : decode cX5_wipe 1 = .ok (.getfield 29, 3) := by decide +kernel
theorem dX5_wipe_4 : decode cX5_wipe 4 = .ok (.invokevirtual 173, 3) := by decide +kernel
theorem dX5_wipe_7 : decode cX5_wipe 7 = .ok (.ireturn, 1) := by decide +kernel
set_option maxRecDepth 20000 in
theorem ggX5_dinner_X3_become : GoodIn wsX5_dinner wsX3_become := goodIn_r _ [8, 9, 10, 11, 12, 13, 14, 15, 16, 17, 18, 19, 20, 21, 22, 23, 156, 157, 158, 159, 160, 161, 162, 163, 164, 165, 166, 167, 168] (by decide +kernel) (by decide +kernel)
set_option maxRecDepth 20000 in
theorem gX5_dinner_X3_become : GoodIn wsX5_dinner (wsV RX5 150 RX3 yX3_become wsX3_become) := goodIn_app (goodIn_of _ (by decide +kernel)) ggX5_dinner_X3_become
set_option maxRecDepth 20000 in
theorem ggX5_dinner_X0_tell : GoodIn wsX5_dinner wsX0_tell := goodIn_r _ [27, 28, 29, 30, 31, 32, 33, 34, 35, 36, 37, 38, 39, 40, 41, 42, 43, 44, 45, 46, 47, 48, 49, 50, 51, 52, 53, 26, 54, 55, 56, 57, 58, 59, 60, 61, 62, 63, 64, 65, 66, 67, 68, 69, 70, 71, 72, 73, 74, 75, 76, 77, 78, 79, 80, 81, 82, 83, 84, 85, 86, 87, 88, 89, 90, 91, 92, 93, 94, 95, 96, 97, 98, 99, 100, 101, 102, 103, 104, 105, 106, 107, 108, 109, 110, 111, 112, 113, 114, 115, 116, 117, 118, 119, 120, 121, 122, 7, 123, 10, 15, 16, 124, 125, 126, 127, 128, 129, 130, 20, 17, 131, 132, 133, 134, 135, 136, 137, 138, 139, 140, 141, 142, 143, 144, 18, 19, 21, 22, 23, 169, 170, 171, 172, 173, 174, 156, 157, 158, 159, 160, 161, 162, 163, 164, 165, 166, 167, 168] (by decide +kernel) (by decide +kernel)
set_option maxRecDepth 20000 in
theorem gX5_dinner_X0_tell : GoodIn wsX5_dinner (va_wsS RX5 176 yX0_tell wsX0_tell) := goodIn_app (goodIn_of _ (by decide +kernel)) ggX5_dinner_X0_tell
set_option maxRecDepth 20000 in
theorem ggX5_dinner_X4_empty : GoodIn wsX5_dinner wsX4_empty := goodIn_r _ [148, 43, 169, 170, 171, 172, 173, 174] (by decide +kernel) (by decide +kernel)
set_option maxRecDepth 20000 in
theorem gX5_dinner_X4_empty : GoodIn wsX5_dinner (wsV RX5 173 RX4 yX4_empty wsX4_empty) := goodIn_app (goodIn_of _ (by decide +kernel)) ggX5_dinner_X4_empty
theorem dX5_dinner_0 : decode cX5_dinner 0 = .ok (.aload_n 0, 1) := by decide +kernel
theorem dX5_dinner_1 : decode cX5_dinner 1 = .ok (.getfield 16, 3) := by decide +kernel
theorem dX5_dinner_4 : decode cX5_dinner 4 = .ok (.aload_n 0, 1) := by decide +kernel
theorem dX5_dinner_5 : decode cX5_dinner 5 = .ok (.getfield 10, 3) := by decide +kernel
theorem dX5_dinner_8 : decode cX5_dinner 8 = .ok (.invokevirtual 150, 3) := by decide +kernel
theorem dX5_dinner_11 : decode cX5_dinner 11 = .ok (.aload_n 0, 1) := by decide +kernel
theorem dX5_dinner_12 : decode cX5_dinner 12 = .ok (.getfield 29, 3) := by decide +kernel
theorem dX5_dinner_15 : decode cX5_dinner 15 = .ok (.aload_n 0, 1) := by decide +kernel
theorem dX5_dinner_16 : decode cX5_dinner 16 = .ok (.getfield 16, 3) := by decide +kernel
theorem dX5_dinner_19 : decode cX5_dinner 19 = .ok (.invokestatic 176, 3) := by decide +kernel
theorem dX5_dinner_22 : decode cX5_dinner 22 = .ok (.istore_n 1, 1) := by decide +kernel
theorem dX5_dinner_23 : decode cX5_dinner 23 = .ok (.iload_n 1, 1) := by decide +kernel
theorem dX5_dinner_24 : decode cX5_dinner 24 = .ok (.ifCond .lt 14, 3) := by decide +kernel
theorem dX5_dinner_27 : decode cX5_dinner 27 = .ok (.aload_n 0, 1) := by decide +kernel
theorem dX5_dinner_28 : decode cX5_dinner 28 = .ok (.getfield 10, 3) := by decide +kernel
theorem dX5_dinner_31 : decode cX5_dinner 31 = .ok (.aload_n 0, 1) := by decide +kernel
theorem dX5_dinner_32 : decode cX5_dinner 32 = .ok (.getfield 16, 3) := by decide +kernel
theorem dX5_dinner_35 : decode cX5_dinner 35 = .ok (.invokevirtual 150, 3) := by decide +kernel
theorem dX5_dinner_38 : decode cX5_dinner 38 = .ok (.aload_n 0, 1) := by decide +kernel
theorem dX5_dinner_39 : decode cX5_dinner 39 = .ok (.getfield 29, 3) := by decide +kernel
theorem dX5_dinner_42 : decode cX5_dinner 42 = .ok (.invokevirtual 173, 3) := by decide +kernel
theorem dX5_dinner_45 : decode cX5_dinner 45 = .ok (.pop, 1) := by decide +kernel
theorem dX5_dinner_46 : decode cX5_dinner 46 = .ok (.iload_n 1, 1) := by decide +kernel
theorem dX5_dinner_47 : decode cX5_dinner 47 = .ok (.ireturn, 1) := by decide +kernel
set_option maxRecDepth 20000 in
theorem ggX5_sheet_X5_isSheet : GoodIn wsX5_sheet wsX5_isSheet := goodIn_r _ [8] (by decide +kernel) (by decide +kernel)
set_option maxRecDepth 20000 in
theorem gX5_sheet_X5_isSheet : GoodIn wsX5_sheet (va_wsS RX5 182 yX5_isSheet wsX5_isSheet) := goodIn_app (goodIn_of _ (by decide +kernel)) ggX5_sheet_X5_isSheet
set_option maxRecDepth 20000 in
theorem ggX5_sheet_X5_found : GoodIn wsX5_sheet wsX5_found := goodIn_r _ [12, 1, 13, 26, 27, 28, 29, 30, 31, 32] (by decide +kernel) (by decide +kernel)
set_option maxRecDepth 20000 in
theorem gX5_sheet_X5_found : GoodIn wsX5_sheet (wsV RX5 53 RX5 yX5_found wsX5_found) := goodIn_app (goodIn_of _ (by decide +kernel)) ggX5_sheet_X5_found
set_option maxRecDepth 20000 in
theorem ggX5_sheet_X2_begin : GoodIn wsX5_sheet wsX2_begin := goodIn_r _ [18, 19, 20, 21, 22, 23, 24, 25, 33, 34, 35] (by decide +kernel) (by decide +kernel)
set_option maxRecDepth 20000 in
theorem gX5_sheet_X2_begin : GoodIn wsX5_sheet (wsV RX5 186 RX2 yX2_begin wsX2_begin) := goodIn_app (goodIn_of _ (by decide +kernel)) ggX5_sheet_X2_begin
theorem dX5_sheet_0 : decode cX5_sheet 0 = .ok (.iload_n 1, 1) := by decide +kernel
theorem dX5_sheet_1 : decode cX5_sheet 1 = .ok (.invokestatic 182, 3) := by decide +kernel
theorem dX5_sheet_4 : decode cX5_sheet 4 = .ok (.ifCond .eq 25, 3) := by decide +kernel
theorem dX5_sheet_7 : decode cX5_sheet 7 = .ok (.iload_n 2, 1) := by decide +kernel
theorem dX5_sheet_8 : decode cX5_sheet 8 = .ok (.ifCond .eq 28, 3) := by decide +kernel
theorem dX5_sheet_11 : decode cX5_sheet 11 = .ok (.iload_n 2, 1) := by decide +kernel
theorem dX5_sheet_12 : decode cX5_sheet 12 = .ok (.bipush 8, 2) := by decide +kernel
theorem dX5_sheet_14 : decode cX5_sheet 14 = .ok (.if_icmp .eq 22, 3) := by decide +kernel
theorem dX5_sheet_17 : decode cX5_sheet 17 = .ok (.iload_n 2, 1) := by decide +kernel
theorem dX5_sheet_18 : decode cX5_sheet 18 = .ok (.bipush 16, 2) := by decide +kernel
theorem dX5_sheet_20 : decode cX5_sheet 20 = .ok (.if_icmp .eq 16, 3) := by decide +kernel
theorem dX5_sheet_23 : decode cX5_sheet 23 = .ok (.iload_n 2, 1) := by decide +kernel
theorem dX5_sheet_24 : decode cX5_sheet 24 = .ok (.bipush 64, 2) := by decide +kernel
theorem dX5_sheet_26 : decode cX5_sheet 26 = .ok (.if_icmp .eq 10, 3) := by decide +kernel
theorem dX5_sheet_29 : decode cX5_sheet 29 = .ok (.aload_n 0, 1) := by decide +kernel
theorem dX5_sheet_30 : decode cX5_sheet 30 = .ok (.ldc 52, 2) := by decide +kernel
theorem dX5_sheet_32 : decode cX5_sheet 32 = .ok (.invokevirtual 53, 3) := by decide +kernel
theorem dX5_sheet_35 : decode cX5_sheet 35 = .ok (.ireturn, 1) := by decide +kernel
theorem dX5_sheet_36 : decode cX5_sheet 36 = .ok (.iload_n 3, 1) := by decide +kernel
theorem dX5_sheet_37 : decode cX5_sheet 37 = .ok (.ifCond .ge 10, 3) := by decide +kernel
theorem dX5_sheet_40 : decode cX5_sheet 40 = .ok (.aload_n 0, 1) := by decide +kernel
theorem dX5_sheet_41 : decode cX5_sheet 41 = .ok (.ldc 185, 2) := by decide +kernel
theorem dX5_sheet_43 : decode cX5_sheet 43 = .ok (.invokevirtual 53, 3) := by decide +kernel
theorem dX5_sheet_46 : decode cX5_sheet 46 = .ok (.ireturn, 1) := by decide +kernel
theorem dX5_sheet_47 : decode cX5_sheet 47 = .ok (.iload_n 3, 1) := by decide +kernel
theorem dX5_sheet_48 : decode cX5_sheet 48 = .ok (.bipush 40, 2) := by decide +kernel
theorem dX5_sheet_50 : decode cX5_sheet 50 = .ok (.if_icmp .le 10, 3) := by decide +kernel
theorem dX5_sheet_53 : decode cX5_sheet 53 = .ok (.aload_n 0, 1) := by decide +kernel
theorem dX5_sheet_54 : decode cX5_sheet 54 = .ok (.ldc 52, 2) := by decide +kernel
theorem dX5_sheet_56 : decode cX5_sheet 56 = .ok (.invokevirtual 53, 3) := by decide +kernel
theorem dX5_sheet_59 : decode cX5_sheet 59 = .ok (.ireturn, 1) := by decide +kernel
theorem dX5_sheet_60 : decode cX5_sheet 60 = .ok (.aload_n 0, 1) := by decide +kernel
theorem dX5_sheet_61 : decode cX5_sheet 61 = .ok (.getfield 35, 3) := by decide +kernel
theorem dX5_sheet_64 : decode cX5_sheet 64 = .ok (.iload_n 1, 1) := by decide +kernel
theorem dX5_sheet_65 : decode cX5_sheet 65 = .ok (.aaload, 1) := by decide +kernel
theorem dX5_sheet_66 : decode cX5_sheet 66 = .ok (.iload_n 2, 1) := by decide +kernel
theorem dX5_sheet_67 : decode cX5_sheet 67 = .ok (.iload_n 3, 1) := by decide +kernel
theorem dX5_sheet_68 : decode cX5_sheet 68 = .ok (.invokevirtual 186, 3) := by decide +kernel
theorem dX5_sheet_71 : decode cX5_sheet 71 = .ok (.aload_n 0, 1) := by decide +kernel
theorem dX5_sheet_72 : decode cX5_sheet 72 = .ok (.getfield 35, 3) := by decide +kernel
theorem dX5_sheet_75 : decode cX5_sheet 75 = .ok (.iload_n 1, 1) := by decide +kernel
theorem dX5_sheet_76 : decode cX5_sheet 76 = .ok (.aaload, 1) := by decide +kernel
theorem dX5_sheet_77 : decode cX5_sheet 77 = .ok (.getfield 189, 3) := by decide +kernel
theorem dX5_sheet_80 : decode cX5_sheet 80 = .ok (.ireturn, 1) := by decide +kernel
set_option maxRecDepth 20000 in
theorem ggX5_write_X5_isSheet : GoodIn wsX5_write wsX5_isSheet := goodIn_r _ [8] (by decide +kernel) (by decide +kernel)
set_option maxRecDepth 20000 in
theorem gX5_write_X5_isSheet : GoodIn wsX5_write (va_wsS RX5 182 yX5_isSheet wsX5_isSheet) := goodIn_app (goodIn_of _ (by decide +kernel)) ggX5_write_X5_isSheet
set_option maxRecDepth 20000 in
theorem ggX5_write_X5_found : GoodIn wsX5_write wsX5_found := goodIn_r _ [12, 1, 13, 30, 31, 32, 33, 34, 35, 36] (by decide +kernel) (by decide +kernel)
set_option maxRecDepth 20000 in
theorem gX5_write_X5_found : GoodIn wsX5_write (wsV RX5 53 RX5 yX5_found wsX5_found) := goodIn_app (goodIn_of _ (by decide +kernel)) ggX5_write_X5_found
set_option maxRecDepth 20000 in
theorem ggX5_write_X2_isMissing : GoodIn wsX5_write wsX2_isMissing := goodIn_r _ [18, 19, 37, 38, 39] (by decide +kernel) (by decide +kernel)
set_option maxRecDepth 20000 in
theorem gX5_write_X2_isMissing : GoodIn wsX5_write (wsV RX5 192 RX2 yX2_isMissing wsX2_isMissing) := goodIn_app (goodIn_of _ (by decide +kernel)) ggX5_write_X2_isMissing
set_option maxRecDepth 20000 in
theorem ggX5_write_X2_has : GoodIn wsX5_write wsX2_has := goodIn_r _ [23, 24, 37, 38, 39] (by decide +kernel) (by decide +kernel)
set_option maxRecDepth 20000 in
theorem gX5_write_X2_has : GoodIn wsX5_write (wsV RX5 197 RX2 yX2_has wsX2_has) := goodIn_app (goodIn_of _ (by decide +kernel)) ggX5_write_X2_has
set_option maxRecDepth 20000 in
theorem ggX5_write_X2_put : GoodIn wsX5_write wsX2_put := goodIn_r _ [28, 29, 19, 37, 38, 39] (by decide +kernel) (by decide +kernel)
set_option maxRecDepth 20000 in
theorem gX5_write_X2_put : GoodIn wsX5_write (wsV RX5 202 RX2 yX2_put wsX2_put) := goodIn_app (goodIn_of _ (by decide +kernel)) ggX5_write_X2_put
theorem dX5_write_0 : decode cX5_write 0 = .ok (.iload_n 1, 1) := by decide +kernel
theorem dX5_write_1 : decode cX5_write 1 = .ok (.invokestatic 182, 3) := by decide +kernel
theorem dX5_write_4 : decode cX5_write 4 = .ok (.ifCond .ne 11, 3) := by decide +kernel
theorem dX5_write_7 : decode cX5_write 7 = .ok (.aload_n 0, 1) := by decide +kernel
theorem dX5_write_8 : decode cX5_write 8 = .ok (.ldc 52, 2) := by decide +kernel
theorem dX5_write_10 : decode cX5_write 10 = .ok (.invokevirtual 53, 3) := by decide +kernel
theorem dX5_write_13 : decode cX5_write 13 = .ok (.i2l, 1) := by decide +kernel
theorem dX5_write_14 : decode cX5_write 14 = .ok (.lreturn, 1) := by decide +kernel
theorem dX5_write_15 : decode cX5_write 15 = .ok (.aload_n 0, 1) := by decide +kernel
theorem dX5_write_16 : decode cX5_write 16 = .ok (.getfield 35, 3) := by decide +kernel
theorem dX5_write_19 : decode cX5_write 19 = .ok (.iload_n 1, 1) := by decide +kernel
theorem dX5_write_20 : decode cX5_write 20 = .ok (.aaload, 1) := by decide +kernel
theorem dX5_write_21 : decode cX5_write 21 = .ok (.astore 5, 2) := by decide +kernel
theorem dX5_write_23 : decode cX5_write 23 = .ok (.aload 5, 2) := by decide +kernel
theorem dX5_write_25 : decode cX5_write 25 = .ok (.invokevirtual 192, 3) := by decide +kernel
theorem dX5_write_28 : decode cX5_write 28 = .ok (.ifCond .eq 11, 3) := by decide +kernel
theorem dX5_write_31 : decode cX5_write 31 = .ok (.aload_n 0, 1) := by decide +kernel
theorem dX5_write_32 : decode cX5_write 32 = .ok (.ldc 196, 2) := by decide +kernel
theorem dX5_write_34 : decode cX5_write 34 = .ok (.invokevirtual 53, 3) := by decide +kernel
theorem dX5_write_37 : decode cX5_write 37 = .ok (.i2l, 1) := by decide +kernel
theorem dX5_write_38 : decode cX5_write 38 = .ok (.lreturn, 1) := by decide +kernel
theorem dX5_write_39 : decode cX5_write 39 = .ok (.aload 5, 2) := by decide +kernel
theorem dX5_write_41 : decode cX5_write 41 = .ok (.iload_n 2, 1) := by decide +kernel
theorem dX5_write_42 : decode cX5_write 42 = .ok (.invokevirtual 197, 3) := by decide +kernel
theorem dX5_write_45 : decode cX5_write 45 = .ok (.ifCond .ne 11, 3) := by decide +kernel
theorem dX5_write_48 : decode cX5_write 48 = .ok (.aload_n 0, 1) := by decide +kernel
theorem dX5_write_49 : decode cX5_write 49 = .ok (.ldc 52, 2) := by decide +kernel
theorem dX5_write_51 : decode cX5_write 51 = .ok (.invokevirtual 53, 3) := by decide +kernel
theorem dX5_write_54 : decode cX5_write 54 = .ok (.i2l, 1) := by decide +kernel
theorem dX5_write_55 : decode cX5_write 55 = .ok (.lreturn, 1) := by decide +kernel
theorem dX5_write_56 : decode cX5_write 56 = .ok (.aload 5, 2) := by decide +kernel
theorem dX5_write_58 : decode cX5_write 58 = .ok (.getfield 198, 3) := by decide +kernel
theorem dX5_write_61 : decode cX5_write 61 = .ok (.iload_n 2, 1) := by decide +kernel
theorem dX5_write_62 : decode cX5_write 62 = .ok (.laload, 1) := by decide +kernel
theorem dX5_write_63 : decode cX5_write 63 = .ok (.lstore 6, 2) := by decide +kernel
theorem dX5_write_65 : decode cX5_write 65 = .ok (.aload 5, 2) := by decide +kernel
theorem dX5_write_67 : decode cX5_write 67 = .ok (.iload_n 2, 1) := by decide +kernel
theorem dX5_write_68 : decode cX5_write 68 = .ok (.lload_n 3, 1) := by decide +kernel
theorem dX5_write_69 : decode cX5_write 69 = .ok (.invokevirtual 202, 3) := by decide +kernel
theorem dX5_write_72 : decode cX5_write 72 = .ok (.lload 6, 2) := by decide +kernel
theorem dX5_write_74 : decode cX5_write 74 = .ok (.lreturn, 1) := by decide +kernel
set_option maxRecDepth 20000 in
theorem ggX5_copy_X5_isSheet : GoodIn wsX5_copy wsX5_isSheet := goodIn_r _ [14] (by decide +kernel) (by decide +kernel)
set_option maxRecDepth 20000 in
theorem gX5_copy_X5_isSheet : GoodIn wsX5_copy (va_wsS RX5 182 yX5_isSheet wsX5_isSheet) := goodIn_app (goodIn_of _ (by decide +kernel)) ggX5_copy_X5_isSheet
set_option maxRecDepth 20000 in
theorem ggX5_copy_X5_found : GoodIn wsX5_copy wsX5_found := goodIn_r _ [18, 1, 19, 31, 32, 33, 34, 35, 36, 37] (by decide +kernel) (by decide +kernel)
set_option maxRecDepth 20000 in
theorem gX5_copy_X5_found : GoodIn wsX5_copy (wsV RX5 53 RX5 yX5_found wsX5_found) := goodIn_app (goodIn_of _ (by decide +kernel)) ggX5_copy_X5_found
set_option maxRecDepth 20000 in
theorem ggX5_copy_X2_isMissing : GoodIn wsX5_copy wsX2_isMissing := goodIn_r _ [24, 25, 38, 39, 40] (by decide +kernel) (by decide +kernel)
set_option maxRecDepth 20000 in
theorem gX5_copy_X2_isMissing : GoodIn wsX5_copy (wsV RX5 192 RX2 yX2_isMissing wsX2_isMissing) := goodIn_app (goodIn_of _ (by decide +kernel)) ggX5_copy_X2_isMissing
set_option maxRecDepth 20000 in
theorem ggX5_copy_X2_hasRun : GoodIn wsX5_copy wsX2_hasRun := goodIn_r _ [29, 30, 38, 39, 40] (by decide +kernel) (by decide +kernel)
set_option maxRecDepth 20000 in
theorem gX5_copy_X2_hasRun : GoodIn wsX5_copy (wsV RX5 209 RX2 yX2_hasRun wsX2_hasRun) := goodIn_app (goodIn_of _ (by decide +kernel)) ggX5_copy_X2_hasRun
theorem dX5_copy_0 : decode cX5_copy 0 = .ok (.iload_n 1, 1) := by decide +kernel
theorem dX5_copy_1 : decode cX5_copy 1 = .ok (.invokestatic 182, 3) := by decide +kernel
theorem dX5_copy_4 : decode cX5_copy 4 = .ok (.ifCond .eq 10, 3) := by decide +kernel
theorem dX5_copy_7 : decode cX5_copy 7 = .ok (.iload_n 3, 1) := by decide +kernel
theorem dX5_copy_8 : decode cX5_copy 8 = .ok (.invokestatic 182, 3) := by decide +kernel
theorem dX5_copy_11 : decode cX5_copy 11 = .ok (.ifCond .ne 10, 3) := by decide +kernel
theorem dX5_copy_14 : decode cX5_copy 14 = .ok (.aload_n 0, 1) := by decide +kernel
theorem dX5_copy_15 : decode cX5_copy 15 = .ok (.ldc 52, 2) := by decide +kernel
theorem dX5_copy_17 : decode cX5_copy 17 = .ok (.invokevirtual 53, 3) := by decide +kernel
theorem dX5_copy_20 : decode cX5_copy 20 = .ok (.ireturn, 1) := by decide +kernel
theorem dX5_copy_21 : decode cX5_copy 21 = .ok (.aload_n 0, 1) := by decide +kernel
theorem dX5_copy_22 : decode cX5_copy 22 = .ok (.getfield 35, 3) := by decide +kernel
theorem dX5_copy_25 : decode cX5_copy 25 = .ok (.iload_n 1, 1) := by decide +kernel
theorem dX5_copy_26 : decode cX5_copy 26 = .ok (.aaload, 1) := by decide +kernel
theorem dX5_copy_27 : decode cX5_copy 27 = .ok (.astore 6, 2) := by decide +kernel
theorem dX5_copy_29 : decode cX5_copy 29 = .ok (.aload_n 0, 1) := by decide +kernel
theorem dX5_copy_30 : decode cX5_copy 30 = .ok (.getfield 35, 3) := by decide +kernel
theorem dX5_copy_33 : decode cX5_copy 33 = .ok (.iload_n 3, 1) := by decide +kernel
theorem dX5_copy_34 : decode cX5_copy 34 = .ok (.aaload, 1) := by decide +kernel
theorem dX5_copy_35 : decode cX5_copy 35 = .ok (.astore 7, 2) := by decide +kernel
theorem dX5_copy_37 : decode cX5_copy 37 = .ok (.aload 6, 2) := by decide +kernel
theorem dX5_copy_39 : decode cX5_copy 39 = .ok (.invokevirtual 192, 3) := by decide +kernel
theorem dX5_copy_42 : decode cX5_copy 42 = .ok (.ifCond .ne 11, 3) := by decide +kernel
theorem dX5_copy_45 : decode cX5_copy 45 = .ok (.aload 7, 2) := by decide +kernel
theorem dX5_copy_47 : decode cX5_copy 47 = .ok (.invokevirtual 192, 3) := by decide +kernel
theorem dX5_copy_50 : decode cX5_copy 50 = .ok (.ifCond .eq 10, 3) := by decide +kernel
theorem dX5_copy_53 : decode cX5_copy 53 = .ok (.aload_n 0, 1) := by decide +kernel
theorem dX5_copy_54 : decode cX5_copy 54 = .ok (.ldc 196, 2) := by decide +kernel
theorem dX5_copy_56 : decode cX5_copy 56 = .ok (.invokevirtual 53, 3) := by decide +kernel
theorem dX5_copy_59 : decode cX5_copy 59 = .ok (.ireturn, 1) := by decide +kernel
theorem dX5_copy_60 : decode cX5_copy 60 = .ok (.aload 6, 2) := by decide +kernel
theorem dX5_copy_62 : decode cX5_copy 62 = .ok (.getfield 206, 3) := by decide +kernel
theorem dX5_copy_65 : decode cX5_copy 65 = .ok (.aload 7, 2) := by decide +kernel
theorem dX5_copy_67 : decode cX5_copy 67 = .ok (.getfield 206, 3) := by decide +kernel
theorem dX5_copy_70 : decode cX5_copy 70 = .ok (.if_icmp .eq 10, 3) := by decide +kernel
theorem dX5_copy_73 : decode cX5_copy 73 = .ok (.aload_n 0, 1) := by decide +kernel
theorem dX5_copy_74 : decode cX5_copy 74 = .ok (.ldc 144, 2) := by decide +kernel
theorem dX5_copy_76 : decode cX5_copy 76 = .ok (.invokevirtual 53, 3) := by decide +kernel
theorem dX5_copy_79 : decode cX5_copy 79 = .ok (.ireturn, 1) := by decide +kernel
theorem dX5_copy_80 : decode cX5_copy 80 = .ok (.aload 6, 2) := by decide +kernel
theorem dX5_copy_82 : decode cX5_copy 82 = .ok (.iload_n 2, 1) := by decide +kernel
theorem dX5_copy_83 : decode cX5_copy 83 = .ok (.iload 5, 2) := by decide +kernel
theorem dX5_copy_85 : decode cX5_copy 85 = .ok (.invokevirtual 209, 3) := by decide +kernel
theorem dX5_copy_88 : decode cX5_copy 88 = .ok (.ifCond .eq 15, 3) := by decide +kernel
theorem dX5_copy_91 : decode cX5_copy 91 = .ok (.aload 7, 2) := by decide +kernel
theorem dX5_copy_93 : decode cX5_copy 93 = .ok (.iload 4, 2) := by decide +kernel
theorem dX5_copy_95 : decode cX5_copy 95 = .ok (.iload 5, 2) := by decide +kernel
theorem dX5_copy_97 : decode cX5_copy 97 = .ok (.invokevirtual 209, 3) := by decide +kernel
theorem dX5_copy_100 : decode cX5_copy 100 = .ok (.ifCond .ne 10, 3) := by decide +kernel
theorem dX5_copy_103 : decode cX5_copy 103 = .ok (.aload_n 0, 1) := by decide +kernel
theorem dX5_copy_104 : decode cX5_copy 104 = .ok (.ldc 52, 2) := by decide +kernel
theorem dX5_copy_106 : decode cX5_copy 106 = .ok (.invokevirtual 53, 3) := by decide +kernel
theorem dX5_copy_109 : decode cX5_copy 109 = .ok (.ireturn, 1) := by decide +kernel
theorem dX5_copy_110 : decode cX5_copy 110 = .ok (.aload 6, 2) := by decide +kernel
theorem dX5_copy_112 : decode cX5_copy 112 = .ok (.getfield 198, 3) := by decide +kernel
theorem dX5_copy_115 : decode cX5_copy 115 = .ok (.iload_n 2, 1) := by decide +kernel
theorem dX5_copy_116 : decode cX5_copy 116 = .ok (.aload 7, 2) := by decide +kernel
theorem dX5_copy_118 : decode cX5_copy 118 = .ok (.getfield 198, 3) := by decide +kernel
theorem dX5_copy_121 : decode cX5_copy 121 = .ok (.iload 4, 2) := by decide +kernel
theorem dX5_copy_123 : decode cX5_copy 123 = .ok (.iload 5, 2) := by decide +kernel
theorem dX5_copy_125 : decode cX5_copy 125 = .ok (.invokestatic 212, 3) := by decide +kernel
theorem dX5_copy_128 : decode cX5_copy 128 = .ok (.iload 5, 2) := by decide +kernel
theorem dX5_copy_130 : decode cX5_copy 130 = .ok (.ireturn, 1) := by decide +kernel
set_option maxRecDepth 20000 in
theorem ggX5_lays_X5_isSheet : GoodIn wsX5_lays wsX5_isSheet := goodIn_r _ [14] (by decide +kernel) (by decide +kernel)
set_option maxRecDepth 20000 in
theorem gX5_lays_X5_isSheet : GoodIn wsX5_lays (va_wsS RX5 182 yX5_isSheet wsX5_isSheet) := goodIn_app (goodIn_of _ (by decide +kernel)) ggX5_lays_X5_isSheet
set_option maxRecDepth 20000 in
theorem ggX5_lays_X5_found : GoodIn wsX5_lays wsX5_found := goodIn_r _ [18, 1, 19, 26, 27, 28, 29, 30, 31, 32] (by decide +kernel) (by decide +kernel)
set_option maxRecDepth 20000 in
theorem gX5_lays_X5_found : GoodIn wsX5_lays (wsV RX5 53 RX5 yX5_found wsX5_found) := goodIn_app (goodIn_of _ (by decide +kernel)) ggX5_lays_X5_found
set_option maxRecDepth 20000 in
theorem ggX5_lays_X2_isMissing : GoodIn wsX5_lays wsX2_isMissing := goodIn_r _ [24, 25, 33, 34, 35] (by decide +kernel) (by decide +kernel)
set_option maxRecDepth 20000 in
theorem gX5_lays_X2_isMissing : GoodIn wsX5_lays (wsV RX5 192 RX2 yX2_isMissing wsX2_isMissing) := goodIn_app (goodIn_of _ (by decide +kernel)) ggX5_lays_X2_isMissing
theorem dX5_lays_0 : decode cX5_lays 0 = .ok (.iload_n 1, 1) := by decide +kernel
theorem dX5_lays_1 : decode cX5_lays 1 = .ok (.invokestatic 182, 3) := by decide +kernel
theorem dX5_lays_4 : decode cX5_lays 4 = .ok (.ifCond .ne 10, 3) := by decide +kernel
theorem dX5_lays_7 : decode cX5_lays 7 = .ok (.aload_n 0, 1) := by decide +kernel
theorem dX5_lays_8 : decode cX5_lays 8 = .ok (.ldc 52, 2) := by decide +kernel
theorem dX5_lays_10 : decode cX5_lays 10 = .ok (.invokevirtual 53, 3) := by decide +kernel
theorem dX5_lays_13 : decode cX5_lays 13 = .ok (.ireturn, 1) := by decide +kernel
theorem dX5_lays_14 : decode cX5_lays 14 = .ok (.aload_n 0, 1) := by decide +kernel
theorem dX5_lays_15 : decode cX5_lays 15 = .ok (.getfield 35, 3) := by decide +kernel
theorem dX5_lays_18 : decode cX5_lays 18 = .ok (.iload_n 1, 1) := by decide +kernel
theorem dX5_lays_19 : decode cX5_lays 19 = .ok (.aaload, 1) := by decide +kernel
theorem dX5_lays_20 : decode cX5_lays 20 = .ok (.astore_n 2, 1) := by decide +kernel
theorem dX5_lays_21 : decode cX5_lays 21 = .ok (.aload_n 2, 1) := by decide +kernel
theorem dX5_lays_22 : decode cX5_lays 22 = .ok (.invokevirtual 192, 3) := by decide +kernel
theorem dX5_lays_25 : decode cX5_lays 25 = .ok (.ifCond .eq 10, 3) := by decide +kernel
theorem dX5_lays_28 : decode cX5_lays 28 = .ok (.aload_n 0, 1) := by decide +kernel
theorem dX5_lays_29 : decode cX5_lays 29 = .ok (.ldc 196, 2) := by decide +kernel
theorem dX5_lays_31 : decode cX5_lays 31 = .ok (.invokevirtual 53, 3) := by decide +kernel
theorem dX5_lays_34 : decode cX5_lays 34 = .ok (.ireturn, 1) := by decide +kernel
theorem dX5_lays_35 : decode cX5_lays 35 = .ok (.iconst 0, 1) := by decide +kernel
theorem dX5_lays_36 : decode cX5_lays 36 = .ok (.istore_n 3, 1) := by decide +kernel
theorem dX5_lays_37 : decode cX5_lays 37 = .ok (.iconst 0, 1) := by decide +kernel
theorem dX5_lays_38 : decode cX5_lays 38 = .ok (.istore 4, 2) := by decide +kernel
theorem dX5_lays_40 : decode cX5_lays 40 = .ok (.iload 4, 2) := by decide +kernel
theorem dX5_lays_42 : decode cX5_lays 42 = .ok (.aload_n 2, 1) := by decide +kernel
theorem dX5_lays_43 : decode cX5_lays 43 = .ok (.getfield 189, 3) := by decide +kernel
theorem dX5_lays_46 : decode cX5_lays 46 = .ok (.if_icmp .ge 64, 3) := by decide +kernel
theorem dX5_lays_49 : decode cX5_lays 49 = .ok (.iload 4, 2) := by decide +kernel
theorem dX5_lays_51 : decode cX5_lays 51 = .ok (.aload_n 0, 1) := by decide +kernel
theorem dX5_lays_52 : decode cX5_lays 52 = .ok (.getfield 10, 3) := by decide +kernel
theorem dX5_lays_55 : decode cX5_lays 55 = .ok (.getfield 89, 3) := by decide +kernel
theorem dX5_lays_58 : decode cX5_lays 58 = .ok (.if_icmp .ge 52, 3) := by decide +kernel
theorem dX5_lays_61 : decode cX5_lays 61 = .ok (.aload_n 2, 1) := by decide +kernel
theorem dX5_lays_62 : decode cX5_lays 62 = .ok (.getfield 198, 3) := by decide +kernel
theorem dX5_lays_65 : decode cX5_lays 65 = .ok (.iload 4, 2) := by decide +kernel
theorem dX5_lays_67 : decode cX5_lays 67 = .ok (.laload, 1) := by decide +kernel
theorem dX5_lays_68 : decode cX5_lays 68 = .ok (.lstore 5, 2) := by decide +kernel
theorem dX5_lays_70 : decode cX5_lays 70 = .ok (.lload 5, 2) := by decide +kernel
theorem dX5_lays_72 : decode cX5_lays 72 = .ok (.ldc2_w 218, 3) := by decide +kernel
theorem dX5_lays_75 : decode cX5_lays 75 = .ok (.lcmp, 1) := by decide +kernel
theorem dX5_lays_76 : decode cX5_lays 76 = .ok (.ifCond .lt 28, 3) := by decide +kernel
theorem dX5_lays_79 : decode cX5_lays 79 = .ok (.lload 5, 2) := by decide +kernel
theorem dX5_lays_81 : decode cX5_lays 81 = .ok (.ldc2_w 220, 3) := by decide +kernel
theorem dX5_lays_84 : decode cX5_lays 84 = .ok (.lcmp, 1) := by decide +kernel
theorem dX5_lays_85 : decode cX5_lays 85 = .ok (.ifCond .gt 19, 3) := by decide +kernel
theorem dX5_lays_88 : decode cX5_lays 88 = .ok (.aload_n 0, 1) := by decide +kernel
theorem dX5_lays_89 : decode cX5_lays 89 = .ok (.getfield 10, 3) := by decide +kernel
theorem dX5_lays_92 : decode cX5_lays 92 = .ok (.getfield 107, 3) := by decide +kernel
theorem dX5_lays_95 : decode cX5_lays 95 = .ok (.iload 4, 2) := by decide +kernel
theorem dX5_lays_97 : decode cX5_lays 97 = .ok (.lload 5, 2) := by decide +kernel
theorem dX5_lays_99 : decode cX5_lays 99 = .ok (.l2i, 1) := by decide +kernel
theorem dX5_lays_100 : decode cX5_lays 100 = .ok (.iastore, 1) := by decide +kernel
theorem dX5_lays_101 : decode cX5_lays 101 = .ok (.iinc 3 1, 3) := by decide +kernel
theorem dX5_lays_104 : decode cX5_lays 104 = .ok (.iinc 4 1, 3) := by decide +kernel
theorem dX5_lays_107 : decode cX5_lays 107 = .ok (.goto (-67), 3) := by decide +kernel
theorem dX5_lays_110 : decode cX5_lays 110 = .ok (.iload_n 3, 1) := by decide +kernel
theorem dX5_lays_111 : decode cX5_lays 111 = .ok (.ireturn, 1) := by decide +kernel
set_option maxRecDepth 20000 in
theorem ggX5_book_X5_findingOfBook : GoodIn wsX5_book wsX5_findingOfBook := goodIn_r _ [10, 11, 1, 12, 3, 13, 14, 9, 15, 16, 17, 18, 19, 20, 21, 22, 23, 24, 25, 26, 27, 130, 131, 132, 133, 134, 135, 136, 137, 138, 139, 140, 141, 142, 143, 144, 145, 146, 147, 148, 149, 150, 151, 152] (by decide +kernel) (by decide +kernel)
set_option maxRecDepth 20000 in
theorem gX5_book_X5_findingOfBook : GoodIn wsX5_book (wsV RX5 222 RX5 yX5_findingOfBook wsX5_findingOfBook) := goodIn_app (goodIn_of _ (by decide +kernel)) ggX5_book_X5_findingOfBook
set_option maxRecDepth 20000 in
theorem ggX5_book_X5_found : GoodIn wsX5_book wsX5_found := goodIn_r _ [31, 11, 32, 130, 131, 132, 133, 134, 135, 136] (by decide +kernel) (by decide +kernel)
set_option maxRecDepth 20000 in
theorem gX5_book_X5_found : GoodIn wsX5_book (wsV RX5 53 RX5 yX5_found wsX5_found) := goodIn_app (goodIn_of _ (by decide +kernel)) ggX5_book_X5_found
set_option maxRecDepth 20000 in
theorem ggX5_book_X3_become : GoodIn wsX5_book wsX3_become := goodIn_r _ [36, 37, 38, 39, 40, 41, 42, 43, 44, 45, 27, 46, 47, 48, 49, 50, 140, 141, 142, 143, 144, 145, 146, 147, 148, 149, 150, 151, 152] (by decide +kernel) (by decide +kernel)
set_option maxRecDepth 20000 in
theorem gX5_book_X3_become : GoodIn wsX5_book (wsV RX5 150 RX3 yX3_become wsX3_become) := goodIn_app (goodIn_of _ (by decide +kernel)) ggX5_book_X3_become
set_option maxRecDepth 20000 in
theorem ggX5_book_X3_findMore : GoodIn wsX5_book wsX3_findMore := goodIn_r _ [54, 27, 55, 56, 57, 58, 59, 25, 60, 47, 46, 38, 43, 44, 61, 62, 63, 64, 45, 65, 66, 67, 68, 69, 70, 71, 72, 73, 74, 75, 76, 77, 78, 79, 80, 81, 82, 83, 84, 85, 86, 87, 88, 89, 90, 91, 92, 93, 94, 95, 140, 141, 142, 143, 144, 145, 146, 147, 148, 149, 150, 151, 152] (by decide +kernel) (by decide +kernel)
set_option maxRecDepth 20000 in
theorem gX5_book_X3_findMore : GoodIn wsX5_book (wsV RX5 154 RX3 yX3_findMore wsX3_findMore) := goodIn_app (goodIn_of _ (by decide +kernel)) ggX5_book_X3_findMore
set_option maxRecDepth 20000 in
theorem ggX5_book_X2_put : GoodIn wsX5_book wsX2_put := goodIn_r _ [99, 100, 21, 137, 138, 139] (by decide +kernel) (by decide +kernel)
set_option maxRecDepth 20000 in
theorem gX5_book_X2_put : GoodIn wsX5_book (wsV RX5 202 RX2 yX2_put wsX2_put) := goodIn_app (goodIn_of _ (by decide +kernel)) ggX5_book_X2_put
set_option maxRecDepth 20000 in
theorem ggX5_book_X3_serveOne : GoodIn wsX5_book wsX3_serveOne := goodIn_r _ [104, 27, 48, 55, 105, 106, 107, 108, 109, 110, 111, 49, 50, 56, 37, 112, 113, 114, 25, 115, 116, 117, 118, 119, 46, 44, 47, 120, 121, 83, 122, 123, 124, 125, 126, 127, 128, 129, 74, 75, 76, 77, 78, 79, 80, 140, 141, 142, 143, 144, 145, 146, 147, 148, 149, 150, 151, 152] (by decide +kernel) (by decide +kernel)
set_option maxRecDepth 20000 in
theorem gX5_book_X3_serveOne : GoodIn wsX5_book (wsV RX5 157 RX3 yX3_serveOne wsX3_serveOne) := goodIn_app (goodIn_of _ (by decide +kernel)) ggX5_book_X3_serveOne
theorem dX5_book_0 : decode cX5_book 0 = .ok (.aload_n 0, 1) := by decide +kernel
theorem dX5_book_1 : decode cX5_book 1 = .ok (.iload_n 1, 1) := by decide +kernel
theorem dX5_book_2 : decode cX5_book 2 = .ok (.iload_n 2, 1) := by decide +kernel
theorem dX5_book_3 : decode cX5_book 3 = .ok (.invokevirtual 222, 3) := by decide +kernel
theorem dX5_book_6 : decode cX5_book 6 = .ok (.istore_n 3, 1) := by decide +kernel
theorem dX5_book_7 : decode cX5_book 7 = .ok (.iload_n 3, 1) := by decide +kernel
theorem dX5_book_8 : decode cX5_book 8 = .ok (.ifCond .eq 9, 3) := by decide +kernel
theorem dX5_book_11 : decode cX5_book 11 = .ok (.aload_n 0, 1) := by decide +kernel
theorem dX5_book_12 : decode cX5_book 12 = .ok (.iload_n 3, 1) := by decide +kernel
theorem dX5_book_13 : decode cX5_book 13 = .ok (.invokevirtual 53, 3) := by decide +kernel
theorem dX5_book_16 : decode cX5_book 16 = .ok (.ireturn, 1) := by decide +kernel
theorem dX5_book_17 : decode cX5_book 17 = .ok (.aload_n 0, 1) := by decide +kernel
theorem dX5_book_18 : decode cX5_book 18 = .ok (.getfield 35, 3) := by decide +kernel
theorem dX5_book_21 : decode cX5_book 21 = .ok (.iload_n 1, 1) := by decide +kernel
theorem dX5_book_22 : decode cX5_book 22 = .ok (.aaload, 1) := by decide +kernel
theorem dX5_book_23 : decode cX5_book 23 = .ok (.astore 4, 2) := by decide +kernel
theorem dX5_book_25 : decode cX5_book 25 = .ok (.aload_n 0, 1) := by decide +kernel
theorem dX5_book_26 : decode cX5_book 26 = .ok (.getfield 16, 3) := by decide +kernel
theorem dX5_book_29 : decode cX5_book 29 = .ok (.aload_n 0, 1) := by decide +kernel
theorem dX5_book_30 : decode cX5_book 30 = .ok (.getfield 10, 3) := by decide +kernel
theorem dX5_book_33 : decode cX5_book 33 = .ok (.invokevirtual 150, 3) := by decide +kernel
theorem dX5_book_36 : decode cX5_book 36 = .ok (.aload_n 0, 1) := by decide +kernel
theorem dX5_book_37 : decode cX5_book 37 = .ok (.getfield 16, 3) := by decide +kernel
theorem dX5_book_40 : decode cX5_book 40 = .ok (.invokevirtual 154, 3) := by decide +kernel
theorem dX5_book_43 : decode cX5_book 43 = .ok (.iconst 0, 1) := by decide +kernel
theorem dX5_book_44 : decode cX5_book 44 = .ok (.istore 5, 2) := by decide +kernel
theorem dX5_book_46 : decode cX5_book 46 = .ok (.iload 5, 2) := by decide +kernel
theorem dX5_book_48 : decode cX5_book 48 = .ok (.aload 4, 2) := by decide +kernel
theorem dX5_book_50 : decode cX5_book 50 = .ok (.getfield 189, 3) := by decide +kernel
theorem dX5_book_53 : decode cX5_book 53 = .ok (.if_icmp .ge 33, 3) := by decide +kernel
theorem dX5_book_56 : decode cX5_book 56 = .ok (.aload 4, 2) := by decide +kernel
theorem dX5_book_58 : decode cX5_book 58 = .ok (.iload 5, 2) := by decide +kernel
theorem dX5_book_60 : decode cX5_book 60 = .ok (.aload_n 0, 1) := by decide +kernel
theorem dX5_book_61 : decode cX5_book 61 = .ok (.getfield 16, 3) := by decide +kernel
theorem dX5_book_64 : decode cX5_book 64 = .ok (.getfield 107, 3) := by decide +kernel
theorem dX5_book_67 : decode cX5_book 67 = .ok (.iload_n 2, 1) := by decide +kernel
theorem dX5_book_68 : decode cX5_book 68 = .ok (.iaload, 1) := by decide +kernel
theorem dX5_book_69 : decode cX5_book 69 = .ok (.i2l, 1) := by decide +kernel
theorem dX5_book_70 : decode cX5_book 70 = .ok (.invokevirtual 202, 3) := by decide +kernel
theorem dX5_book_73 : decode cX5_book 73 = .ok (.aload_n 0, 1) := by decide +kernel
theorem dX5_book_74 : decode cX5_book 74 = .ok (.getfield 16, 3) := by decide +kernel
theorem dX5_book_77 : decode cX5_book 77 = .ok (.invokevirtual 157, 3) := by decide +kernel
theorem dX5_book_80 : decode cX5_book 80 = .ok (.iinc 5 1, 3) := by decide +kernel
theorem dX5_book_83 : decode cX5_book 83 = .ok (.goto (-37), 3) := by decide +kernel
theorem dX5_book_86 : decode cX5_book 86 = .ok (.aload 4, 2) := by decide +kernel
theorem dX5_book_88 : decode cX5_book 88 = .ok (.getfield 189, 3) := by decide +kernel
theorem dX5_book_91 : decode cX5_book 91 = .ok (.ireturn, 1) := by decide +kernel
set_option maxRecDepth 20000 in
theorem ggX5_read_X5_findingOfBook : GoodIn wsX5_read wsX5_findingOfBook := goodIn_r _ [11, 12, 6, 13, 2, 14, 15, 10, 16, 17, 18, 19, 20, 21, 22, 23, 24, 25, 26, 27, 28, 133, 134, 135, 136, 137, 138, 139, 153, 154, 155, 140, 141, 142, 143, 144, 145, 146, 147, 148, 149, 150, 151, 152] (by decide +kernel) (by decide +kernel)
set_option maxRecDepth 20000 in
theorem gX5_read_X5_findingOfBook : GoodIn wsX5_read (wsV RX5 222 RX5 yX5_findingOfBook wsX5_findingOfBook) := goodIn_app (goodIn_of _ (by decide +kernel)) ggX5_read_X5_findingOfBook
set_option maxRecDepth 20000 in
theorem ggX5_read_X5_found : GoodIn wsX5_read wsX5_found := goodIn_r _ [32, 12, 33, 133, 134, 135, 136, 137, 138, 139] (by decide +kernel) (by decide +kernel)
set_option maxRecDepth 20000 in
theorem gX5_read_X5_found : GoodIn wsX5_read (wsV RX5 53 RX5 yX5_found wsX5_found) := goodIn_app (goodIn_of _ (by decide +kernel)) ggX5_read_X5_found
set_option maxRecDepth 20000 in
theorem ggX5_read_X3_become : GoodIn wsX5_read wsX3_become := goodIn_r _ [37, 38, 39, 40, 41, 42, 43, 44, 45, 46, 28, 47, 48, 49, 50, 51, 140, 141, 142, 143, 144, 145, 146, 147, 148, 149, 150, 151, 152] (by decide +kernel) (by decide +kernel)
set_option maxRecDepth 20000 in
theorem gX5_read_X3_become : GoodIn wsX5_read (wsV RX5 150 RX3 yX3_become wsX3_become) := goodIn_app (goodIn_of _ (by decide +kernel)) ggX5_read_X3_become
set_option maxRecDepth 20000 in
theorem ggX5_read_X5_trialGoesAs : GoodIn wsX5_read wsX5_trialGoesAs := goodIn_r _ [55, 1, 56, 57, 58, 59, 60, 61, 26, 62, 28, 63, 64, 65, 66, 67, 68, 48, 47, 39, 44, 45, 69, 70, 71, 72, 46, 73, 74, 75, 76, 77, 78, 79, 80, 81, 82, 83, 84, 85, 86, 87, 88, 89, 90, 91, 92, 93, 94, 95, 96, 97, 98, 99, 100, 101, 102, 103, 104, 105, 106, 107, 49, 108, 109, 110, 111, 112, 113, 114, 50, 51, 38, 115, 116, 117, 118, 119, 120, 121, 122, 123, 124, 125, 126, 127, 128, 129, 130, 131, 132, 133, 134, 135, 136, 137, 138, 139, 153, 154, 155, 140, 141, 142, 143, 144, 145, 146, 147, 148, 149, 150, 151, 152] (by decide +kernel) (by decide +kernel)
set_option maxRecDepth 20000 in
theorem gX5_read_X5_trialGoesAs : GoodIn wsX5_read (wsV RX5 225 RX5 yX5_trialGoesAs wsX5_trialGoesAs) := goodIn_app (goodIn_of _ (by decide +kernel)) ggX5_read_X5_trialGoesAs
theorem dX5_read_0 : decode cX5_read 0 = .ok (.aload_n 0, 1) := by decide +kernel
theorem dX5_read_1 : decode cX5_read 1 = .ok (.iload_n 1, 1) := by decide +kernel
theorem dX5_read_2 : decode cX5_read 2 = .ok (.iload_n 2, 1) := by decide +kernel
theorem dX5_read_3 : decode cX5_read 3 = .ok (.invokevirtual 222, 3) := by decide +kernel
theorem dX5_read_6 : decode cX5_read 6 = .ok (.istore_n 3, 1) := by decide +kernel
theorem dX5_read_7 : decode cX5_read 7 = .ok (.iload_n 3, 1) := by decide +kernel
theorem dX5_read_8 : decode cX5_read 8 = .ok (.ifCond .eq 9, 3) := by decide +kernel
theorem dX5_read_11 : decode cX5_read 11 = .ok (.aload_n 0, 1) := by decide +kernel
theorem dX5_read_12 : decode cX5_read 12 = .ok (.iload_n 3, 1) := by decide +kernel
theorem dX5_read_13 : decode cX5_read 13 = .ok (.invokevirtual 53, 3) := by decide +kernel
theorem dX5_read_16 : decode cX5_read 16 = .ok (.ireturn, 1) := by decide +kernel
theorem dX5_read_17 : decode cX5_read 17 = .ok (.iconst 0, 1) := by decide +kernel
theorem dX5_read_18 : decode cX5_read 18 = .ok (.istore 4, 2) := by decide +kernel
theorem dX5_read_20 : decode cX5_read 20 = .ok (.iconst 0, 1) := by decide +kernel
theorem dX5_read_21 : decode cX5_read 21 = .ok (.istore 5, 2) := by decide +kernel
theorem dX5_read_23 : decode cX5_read 23 = .ok (.iload 5, 2) := by decide +kernel
theorem dX5_read_25 : decode cX5_read 25 = .ok (.bipush 6, 2) := by decide +kernel
theorem dX5_read_27 : decode cX5_read 27 = .ok (.if_icmp .ge 83, 3) := by decide +kernel
theorem dX5_read_30 : decode cX5_read 30 = .ok (.iconst 0, 1) := by decide +kernel
theorem dX5_read_31 : decode cX5_read 31 = .ok (.istore 6, 2) := by decide +kernel
theorem dX5_read_33 : decode cX5_read 33 = .ok (.iload 6, 2) := by decide +kernel
theorem dX5_read_35 : decode cX5_read 35 = .ok (.bipush 9, 2) := by decide +kernel
theorem dX5_read_37 : decode cX5_read 37 = .ok (.if_icmp .gt 67, 3) := by decide +kernel
theorem dX5_read_40 : decode cX5_read 40 = .ok (.aload_n 0, 1) := by decide +kernel
theorem dX5_read_41 : decode cX5_read 41 = .ok (.getfield 16, 3) := by decide +kernel
theorem dX5_read_44 : decode cX5_read 44 = .ok (.aload_n 0, 1) := by decide +kernel
theorem dX5_read_45 : decode cX5_read 45 = .ok (.getfield 10, 3) := by decide +kernel
theorem dX5_read_48 : decode cX5_read 48 = .ok (.invokevirtual 150, 3) := by decide +kernel
theorem dX5_read_51 : decode cX5_read 51 = .ok (.aload_n 0, 1) := by decide +kernel
theorem dX5_read_52 : decode cX5_read 52 = .ok (.getfield 16, 3) := by decide +kernel
theorem dX5_read_55 : decode cX5_read 55 = .ok (.getfield 101, 3) := by decide +kernel
theorem dX5_read_58 : decode cX5_read 58 = .ok (.iload_n 2, 1) := by decide +kernel
theorem dX5_read_59 : decode cX5_read 59 = .ok (.iload 5, 2) := by decide +kernel
theorem dX5_read_61 : decode cX5_read 61 = .ok (.iastore, 1) := by decide +kernel
theorem dX5_read_62 : decode cX5_read 62 = .ok (.aload_n 0, 1) := by decide +kernel
theorem dX5_read_63 : decode cX5_read 63 = .ok (.getfield 16, 3) := by decide +kernel
theorem dX5_read_66 : decode cX5_read 66 = .ok (.getfield 63, 3) := by decide +kernel
theorem dX5_read_69 : decode cX5_read 69 = .ok (.aload_n 0, 1) := by decide +kernel
theorem dX5_read_70 : decode cX5_read 70 = .ok (.getfield 10, 3) := by decide +kernel
theorem dX5_read_73 : decode cX5_read 73 = .ok (.getfield 104, 3) := by decide +kernel
theorem dX5_read_76 : decode cX5_read 76 = .ok (.iload_n 2, 1) := by decide +kernel
theorem dX5_read_77 : decode cX5_read 77 = .ok (.iaload, 1) := by decide +kernel
theorem dX5_read_78 : decode cX5_read 78 = .ok (.iload 6, 2) := by decide +kernel
theorem dX5_read_80 : decode cX5_read 80 = .ok (.iastore, 1) := by decide +kernel
theorem dX5_read_81 : decode cX5_read 81 = .ok (.aload_n 0, 1) := by decide +kernel
theorem dX5_read_82 : decode cX5_read 82 = .ok (.aload_n 0, 1) := by decide +kernel
theorem dX5_read_83 : decode cX5_read 83 = .ok (.getfield 35, 3) := by decide +kernel
theorem dX5_read_86 : decode cX5_read 86 = .ok (.iload_n 1, 1) := by decide +kernel
theorem dX5_read_87 : decode cX5_read 87 = .ok (.aaload, 1) := by decide +kernel
theorem dX5_read_88 : decode cX5_read 88 = .ok (.iload_n 2, 1) := by decide +kernel
theorem dX5_read_89 : decode cX5_read 89 = .ok (.invokevirtual 225, 3) := by decide +kernel
theorem dX5_read_92 : decode cX5_read 92 = .ok (.ifCond .eq 6, 3) := by decide +kernel
theorem dX5_read_95 : decode cX5_read 95 = .ok (.iinc 4 1, 3) := by decide +kernel
theorem dX5_read_98 : decode cX5_read 98 = .ok (.iinc 6 1, 3) := by decide +kernel
theorem dX5_read_101 : decode cX5_read 101 = .ok (.goto (-68), 3) := by decide +kernel
theorem dX5_read_104 : decode cX5_read 104 = .ok (.iinc 5 1, 3) := by decide +kernel
theorem dX5_read_107 : decode cX5_read 107 = .ok (.goto (-84), 3) := by decide +kernel
theorem dX5_read_110 : decode cX5_read 110 = .ok (.iload 4, 2) := by decide +kernel
theorem dX5_read_112 : decode cX5_read 112 = .ok (.ireturn, 1) := by decide +kernel
set_option maxRecDepth 20000 in
theorem ggX5_image_X3_become : GoodIn wsX5_image wsX3_become := goodIn_r _ [8, 9, 10, 11, 12, 13, 14, 15, 16, 17, 18, 19, 20, 21, 22, 23, 31, 32, 33, 34, 35, 36, 37, 38, 39, 40, 41, 42, 43] (by decide +kernel) (by decide +kernel)
set_option maxRecDepth 20000 in
theorem gX5_image_X3_become : GoodIn wsX5_image (wsV RX5 150 RX3 yX3_become wsX3_become) := goodIn_app (goodIn_of _ (by decide +kernel)) ggX5_image_X3_become
theorem dX5_image_0 : decode cX5_image 0 = .ok (.aload_n 0, 1) := by decide +kernel
theorem dX5_image_1 : decode cX5_image 1 = .ok (.getfield 19, 3) := by decide +kernel
theorem dX5_image_4 : decode cX5_image 4 = .ok (.aload_n 0, 1) := by decide +kernel
theorem dX5_image_5 : decode cX5_image 5 = .ok (.getfield 10, 3) := by decide +kernel
theorem dX5_image_8 : decode cX5_image 8 = .ok (.invokevirtual 150, 3) := by decide +kernel
theorem dX5_image_11 : decode cX5_image 11 = .ok (.aload_n 0, 1) := by decide +kernel
theorem dX5_image_12 : decode cX5_image 12 = .ok (.iconst 1, 1) := by decide +kernel
theorem dX5_image_13 : decode cX5_image 13 = .ok (.putfield 22, 3) := by decide +kernel
theorem dX5_image_16 : decode cX5_image 16 = .ok (.iconst 1, 1) := by decide +kernel
theorem dX5_image_17 : decode cX5_image 17 = .ok (.ireturn, 1) := by decide +kernel
set_option maxRecDepth 20000 in
theorem ggX5_undo_X5_found : GoodIn wsX5_undo wsX5_found := goodIn_r _ [10, 11, 12, 33, 34, 35, 36, 37, 38, 39] (by decide +kernel) (by decide +kernel)
set_option maxRecDepth 20000 in
theorem gX5_undo_X5_found : GoodIn wsX5_undo (wsV RX5 53 RX5 yX5_found wsX5_found) := goodIn_app (goodIn_of _ (by decide +kernel)) ggX5_undo_X5_found
set_option maxRecDepth 20000 in
theorem ggX5_undo_X3_become : GoodIn wsX5_undo wsX3_become := goodIn_r _ [17, 18, 19, 20, 21, 22, 23, 24, 25, 26, 27, 28, 29, 30, 31, 32, 40, 41, 42, 43, 44, 45, 46, 47, 48, 49, 50, 51, 52] (by decide +kernel) (by decide +kernel)
set_option maxRecDepth 20000 in
theorem gX5_undo_X3_become : GoodIn wsX5_undo (wsV RX5 150 RX3 yX3_become wsX3_become) := goodIn_app (goodIn_of _ (by decide +kernel)) ggX5_undo_X3_become
theorem dX5_undo_0 : decode cX5_undo 0 = .ok (.aload_n 0, 1) := by decide +kernel
theorem dX5_undo_1 : decode cX5_undo 1 = .ok (.getfield 22, 3) := by decide +kernel
theorem dX5_undo_4 : decode cX5_undo 4 = .ok (.ifCond .ne 10, 3) := by decide +kernel
theorem dX5_undo_7 : decode cX5_undo 7 = .ok (.aload_n 0, 1) := by decide +kernel
theorem dX5_undo_8 : decode cX5_undo 8 = .ok (.ldc 160, 2) := by decide +kernel
theorem dX5_undo_10 : decode cX5_undo 10 = .ok (.invokevirtual 53, 3) := by decide +kernel
theorem dX5_undo_13 : decode cX5_undo 13 = .ok (.ireturn, 1) := by decide +kernel
theorem dX5_undo_14 : decode cX5_undo 14 = .ok (.aload_n 0, 1) := by decide +kernel
theorem dX5_undo_15 : decode cX5_undo 15 = .ok (.getfield 10, 3) := by decide +kernel
theorem dX5_undo_18 : decode cX5_undo 18 = .ok (.aload_n 0, 1) := by decide +kernel
theorem dX5_undo_19 : decode cX5_undo 19 = .ok (.getfield 19, 3) := by decide +kernel
theorem dX5_undo_22 : decode cX5_undo 22 = .ok (.invokevirtual 150, 3) := by decide +kernel
theorem dX5_undo_25 : decode cX5_undo 25 = .ok (.aload_n 0, 1) := by decide +kernel
theorem dX5_undo_26 : decode cX5_undo 26 = .ok (.getfield 10, 3) := by decide +kernel
theorem dX5_undo_29 : decode cX5_undo 29 = .ok (.getfield 89, 3) := by decide +kernel
theorem dX5_undo_32 : decode cX5_undo 32 = .ok (.ireturn, 1) := by decide +kernel
theorem dX5_tear_0 : decode cX5_tear 0 = .ok (.aload_n 0, 1) := by decide +kernel
theorem dX5_tear_1 : decode cX5_tear 1 = .ok (.getfield 22, 3) := by decide +kernel
theorem dX5_tear_4 : decode cX5_tear 4 = .ok (.ifCond .eq 7, 3) := by decide +kernel
theorem dX5_tear_7 : decode cX5_tear 7 = .ok (.iconst 1, 1) := by decide +kernel
theorem dX5_tear_8 : decode cX5_tear 8 = .ok (.goto 4, 3) := by decide +kernel
theorem dX5_tear_11 : decode cX5_tear 11 = .ok (.iconst 0, 1) := by decide +kernel
theorem dX5_tear_12 : decode cX5_tear 12 = .ok (.istore_n 1, 1) := by decide +kernel
theorem dX5_tear_13 : decode cX5_tear 13 = .ok (.aload_n 0, 1) := by decide +kernel
theorem dX5_tear_14 : decode cX5_tear 14 = .ok (.iconst 0, 1) := by decide +kernel
theorem dX5_tear_15 : decode cX5_tear 15 = .ok (.putfield 22, 3) := by decide +kernel
theorem dX5_tear_18 : decode cX5_tear 18 = .ok (.iload_n 1, 1) := by decide +kernel
theorem dX5_tear_19 : decode cX5_tear 19 = .ok (.ireturn, 1) := by decide +kernel
set_option maxRecDepth 20000 in
theorem ggX5_count_X3_quarrelsOfAll : GoodIn wsX5_count wsX3_quarrelsOfAll := goodIn_r _ [10, 11, 12, 13, 14, 9, 15, 34, 35, 36, 37, 38, 39, 40, 41, 42, 43, 44, 45, 46] (by decide +kernel) (by decide +kernel)
set_option maxRecDepth 20000 in
theorem gX5_count_X3_quarrelsOfAll : GoodIn wsX5_count (wsV RX5 164 RX3 yX3_quarrelsOfAll wsX3_quarrelsOfAll) := goodIn_app (goodIn_of _ (by decide +kernel)) ggX5_count_X3_quarrelsOfAll
set_option maxRecDepth 20000 in
theorem ggX5_count_X3_hairsOfAll : GoodIn wsX5_count wsX3_hairsOfAll := goodIn_r _ [19, 20, 13, 14, 9, 15, 34, 35, 36, 37, 38, 39, 40, 41, 42, 43, 44, 45, 46] (by decide +kernel) (by decide +kernel)
set_option maxRecDepth 20000 in
theorem gX5_count_X3_hairsOfAll : GoodIn wsX5_count (wsV RX5 229 RX3 yX3_hairsOfAll wsX3_hairsOfAll) := goodIn_app (goodIn_of _ (by decide +kernel)) ggX5_count_X3_hairsOfAll
set_option maxRecDepth 20000 in
theorem ggX5_count_X5_found : GoodIn wsX5_count wsX5_found := goodIn_r _ [25, 5, 26, 27, 28, 29, 30, 31, 32, 33] (by decide +kernel) (by decide +kernel)
set_option maxRecDepth 20000 in
theorem gX5_count_X5_found : GoodIn wsX5_count (wsV RX5 53 RX5 yX5_found wsX5_found) := goodIn_app (goodIn_of _ (by decide +kernel)) ggX5_count_X5_found
theorem dX5_count_0 : decode cX5_count 0 = .ok (.iload_n 1, 1) := by decide +kernel
theorem dX5_count_1 : decode cX5_count 1 = .ok (.tableswitch 63 0 3 #[31, 39, 47, 55], 31) := by decide +kernel
theorem dX5_count_32 : decode cX5_count 32 = .ok (.aload_n 0, 1) := by decide +kernel
theorem dX5_count_33 : decode cX5_count 33 = .ok (.getfield 10, 3) := by decide +kernel
theorem dX5_count_36 : decode cX5_count 36 = .ok (.getfield 89, 3) := by decide +kernel
theorem dX5_count_39 : decode cX5_count 39 = .ok (.ireturn, 1) := by decide +kernel
theorem dX5_count_40 : decode cX5_count 40 = .ok (.aload_n 0, 1) := by decide +kernel
theorem dX5_count_41 : decode cX5_count 41 = .ok (.getfield 29, 3) := by decide +kernel
theorem dX5_count_44 : decode cX5_count 44 = .ok (.getfield 167, 3) := by decide +kernel
theorem dX5_count_47 : decode cX5_count 47 = .ok (.ireturn, 1) := by decide +kernel
theorem dX5_count_48 : decode cX5_count 48 = .ok (.aload_n 0, 1) := by decide +kernel
theorem dX5_count_49 : decode cX5_count 49 = .ok (.getfield 10, 3) := by decide +kernel
theorem dX5_count_52 : decode cX5_count 52 = .ok (.invokevirtual 164, 3) := by decide +kernel
theorem dX5_count_55 : decode cX5_count 55 = .ok (.ireturn, 1) := by decide +kernel
theorem dX5_count_56 : decode cX5_count 56 = .ok (.aload_n 0, 1) := by decide +kernel
theorem dX5_count_57 : decode cX5_count 57 = .ok (.getfield 10, 3) := by decide +kernel
theorem dX5_count_60 : decode cX5_count 60 = .ok (.invokevirtual 229, 3) := by decide +kernel
theorem dX5_count_63 : decode cX5_count 63 = .ok (.ireturn, 1) := by decide +kernel
theorem dX5_count_64 : decode cX5_count 64 = .ok (.aload_n 0, 1) := by decide +kernel
theorem dX5_count_65 : decode cX5_count 65 = .ok (.ldc 52, 2) := by decide +kernel
theorem dX5_count_67 : decode cX5_count 67 = .ok (.invokevirtual 53, 3) := by decide +kernel
theorem dX5_count_70 : decode cX5_count 70 = .ok (.ireturn, 1) := by decide +kernel
set_option maxRecDepth 20000 in
theorem ggX5_status_X5_within : GoodIn wsX5_status wsX5_within := goodIn_r _ [6] (by decide +kernel) (by decide +kernel)
set_option maxRecDepth 20000 in
theorem gX5_status_X5_within : GoodIn wsX5_status (va_wsS RX5 48 yX5_within wsX5_within) := goodIn_app (goodIn_of _ (by decide +kernel)) ggX5_status_X5_within
set_option maxRecDepth 20000 in
theorem ggX5_status_X5_found : GoodIn wsX5_status wsX5_found := goodIn_r _ [10, 1, 2, 11, 12, 13, 14, 15, 16, 17] (by decide +kernel) (by decide +kernel)
set_option maxRecDepth 20000 in
theorem gX5_status_X5_found : GoodIn wsX5_status (wsV RX5 53 RX5 yX5_found wsX5_found) := goodIn_app (goodIn_of _ (by decide +kernel)) ggX5_status_X5_found
theorem dX5_status_0 : decode cX5_status 0 = .ok (.iload_n 1, 1) := by decide +kernel
theorem dX5_status_1 : decode cX5_status 1 = .ok (.iconst (-1), 1) := by decide +kernel
theorem dX5_status_2 : decode cX5_status 2 = .ok (.bipush 6, 2) := by decide +kernel
theorem dX5_status_4 : decode cX5_status 4 = .ok (.invokestatic 48, 3) := by decide +kernel
theorem dX5_status_7 : decode cX5_status 7 = .ok (.ifCond .ne 10, 3) := by decide +kernel
theorem dX5_status_10 : decode cX5_status 10 = .ok (.aload_n 0, 1) := by decide +kernel
theorem dX5_status_11 : decode cX5_status 11 = .ok (.ldc 52, 2) := by decide +kernel
theorem dX5_status_13 : decode cX5_status 13 = .ok (.invokevirtual 53, 3) := by decide +kernel
theorem dX5_status_16 : decode cX5_status 16 = .ok (.ireturn, 1) := by decide +kernel
theorem dX5_status_17 : decode cX5_status 17 = .ok (.iload_n 1, 1) := by decide +kernel
theorem dX5_status_18 : decode cX5_status 18 = .ok (.ifCond .lt 10, 3) := by decide +kernel
theorem dX5_status_21 : decode cX5_status 21 = .ok (.aload_n 0, 1) := by decide +kernel
theorem dX5_status_22 : decode cX5_status 22 = .ok (.getfield 40, 3) := by decide +kernel
theorem dX5_status_25 : decode cX5_status 25 = .ok (.iload_n 1, 1) := by decide +kernel
theorem dX5_status_26 : decode cX5_status 26 = .ok (.iaload, 1) := by decide +kernel
theorem dX5_status_27 : decode cX5_status 27 = .ok (.ireturn, 1) := by decide +kernel
theorem dX5_status_28 : decode cX5_status 28 = .ok (.iconst 0, 1) := by decide +kernel
theorem dX5_status_29 : decode cX5_status 29 = .ok (.istore_n 2, 1) := by decide +kernel
theorem dX5_status_30 : decode cX5_status 30 = .ok (.iconst 0, 1) := by decide +kernel
theorem dX5_status_31 : decode cX5_status 31 = .ok (.istore_n 3, 1) := by decide +kernel
theorem dX5_status_32 : decode cX5_status 32 = .ok (.iload_n 3, 1) := by decide +kernel
theorem dX5_status_33 : decode cX5_status 33 = .ok (.bipush 7, 2) := by decide +kernel
theorem dX5_status_35 : decode cX5_status 35 = .ok (.if_icmp .ge 18, 3) := by decide +kernel
theorem dX5_status_38 : decode cX5_status 38 = .ok (.iload_n 2, 1) := by decide +kernel
theorem dX5_status_39 : decode cX5_status 39 = .ok (.aload_n 0, 1) := by decide +kernel
theorem dX5_status_40 : decode cX5_status 40 = .ok (.getfield 40, 3) := by decide +kernel
theorem dX5_status_43 : decode cX5_status 43 = .ok (.iload_n 3, 1) := by decide +kernel
theorem dX5_status_44 : decode cX5_status 44 = .ok (.iaload, 1) := by decide +kernel
theorem dX5_status_45 : decode cX5_status 45 = .ok (.iadd, 1) := by decide +kernel
theorem dX5_status_46 : decode cX5_status 46 = .ok (.istore_n 2, 1) := by decide +kernel
theorem dX5_status_47 : decode cX5_status 47 = .ok (.iinc 3 1, 3) := by decide +kernel
theorem dX5_status_50 : decode cX5_status 50 = .ok (.goto (-18), 3) := by decide +kernel
theorem dX5_status_53 : decode cX5_status 53 = .ok (.iload_n 2, 1) := by decide +kernel
theorem dX5_status_54 : decode cX5_status 54 = .ok (.ireturn, 1) := by decide +kernel
theorem dX5_found_0 : decode cX5_found 0 = .ok (.ldc 52, 2) := by decide +kernel
theorem dX5_found_2 : decode cX5_found 2 = .ok (.iload_n 1, 1) := by decide +kernel
theorem dX5_found_3 : decode cX5_found 3 = .ok (.isub, 1) := by decide +kernel
theorem dX5_found_4 : decode cX5_found 4 = .ok (.istore_n 2, 1) := by decide +kernel
theorem dX5_found_5 : decode cX5_found 5 = .ok (.iload_n 2, 1) := by decide +kernel
theorem dX5_found_6 : decode cX5_found 6 = .ok (.ifCond .lt 19, 3) := by decide +kernel
theorem dX5_found_9 : decode cX5_found 9 = .ok (.iload_n 2, 1) := by decide +kernel
theorem dX5_found_10 : decode cX5_found 10 = .ok (.bipush 7, 2) := by decide +kernel
theorem dX5_found_12 : decode cX5_found 12 = .ok (.if_icmp .ge 13, 3) := by decide +kernel
theorem dX5_found_15 : decode cX5_found 15 = .ok (.aload_n 0, 1) := by decide +kernel
theorem dX5_found_16 : decode cX5_found 16 = .ok (.getfield 40, 3) := by decide +kernel
theorem dX5_found_19 : decode cX5_found 19 = .ok (.iload_n 2, 1) := by decide +kernel
theorem dX5_found_20 : decode cX5_found 20 = .ok (.dup2, 1) := by decide +kernel
theorem dX5_found_21 : decode cX5_found 21 = .ok (.iaload, 1) := by decide +kernel
theorem dX5_found_22 : decode cX5_found 22 = .ok (.iconst 1, 1) := by decide +kernel
theorem dX5_found_23 : decode cX5_found 23 = .ok (.iadd, 1) := by decide +kernel
theorem dX5_found_24 : decode cX5_found 24 = .ok (.iastore, 1) := by decide +kernel
theorem dX5_found_25 : decode cX5_found 25 = .ok (.iload_n 1, 1) := by decide +kernel
theorem dX5_found_26 : decode cX5_found 26 = .ok (.ireturn, 1) := by decide +kernel
set_option maxRecDepth 20000 in
theorem ggX5_findingOfBook_X5_isSheet : GoodIn wsX5_findingOfBook wsX5_isSheet := goodIn_r _ [8] (by decide +kernel) (by decide +kernel)
set_option maxRecDepth 20000 in
theorem gX5_findingOfBook_X5_isSheet : GoodIn wsX5_findingOfBook (va_wsS RX5 182 yX5_isSheet wsX5_isSheet) := goodIn_app (goodIn_of _ (by decide +kernel)) ggX5_findingOfBook_X5_isSheet
set_option maxRecDepth 20000 in
theorem ggX5_findingOfBook_X2_isMissing : GoodIn wsX5_findingOfBook wsX2_isMissing := goodIn_r _ [13, 14, 28, 29, 30] (by decide +kernel) (by decide +kernel)
set_option maxRecDepth 20000 in
theorem gX5_findingOfBook_X2_isMissing : GoodIn wsX5_findingOfBook (wsV RX5 192 RX2 yX2_isMissing wsX2_isMissing) := goodIn_app (goodIn_of _ (by decide +kernel)) ggX5_findingOfBook_X2_isMissing
set_option maxRecDepth 20000 in
theorem ggX5_findingOfBook_X3_has : GoodIn wsX5_findingOfBook wsX3_has := goodIn_r _ [19, 20, 31, 32, 33, 34, 35, 36, 37, 38, 39, 40, 41, 42, 43] (by decide +kernel) (by decide +kernel)
set_option maxRecDepth 20000 in
theorem gX5_findingOfBook_X3_has : GoodIn wsX5_findingOfBook (wsV RX5 98 RX3 yX3_has wsX3_has) := goodIn_app (goodIn_of _ (by decide +kernel)) ggX5_findingOfBook_X3_has
theorem dX5_findingOfBook_0 : decode cX5_findingOfBook 0 = .ok (.iload_n 1, 1) := by decide +kernel
theorem dX5_findingOfBook_1 : decode cX5_findingOfBook 1 = .ok (.invokestatic 182, 3) := by decide +kernel
theorem dX5_findingOfBook_4 : decode cX5_findingOfBook 4 = .ok (.ifCond .ne 6, 3) := by decide +kernel
theorem dX5_findingOfBook_7 : decode cX5_findingOfBook 7 = .ok (.ldc 52, 2) := by decide +kernel
theorem dX5_findingOfBook_9 : decode cX5_findingOfBook 9 = .ok (.ireturn, 1) := by decide +kernel
theorem dX5_findingOfBook_10 : decode cX5_findingOfBook 10 = .ok (.aload_n 0, 1) := by decide +kernel
theorem dX5_findingOfBook_11 : decode cX5_findingOfBook 11 = .ok (.getfield 35, 3) := by decide +kernel
theorem dX5_findingOfBook_14 : decode cX5_findingOfBook 14 = .ok (.iload_n 1, 1) := by decide +kernel
theorem dX5_findingOfBook_15 : decode cX5_findingOfBook 15 = .ok (.aaload, 1) := by decide +kernel
theorem dX5_findingOfBook_16 : decode cX5_findingOfBook 16 = .ok (.invokevirtual 192, 3) := by decide +kernel
theorem dX5_findingOfBook_19 : decode cX5_findingOfBook 19 = .ok (.ifCond .eq 6, 3) := by decide +kernel
theorem dX5_findingOfBook_22 : decode cX5_findingOfBook 22 = .ok (.ldc 196, 2) := by decide +kernel
theorem dX5_findingOfBook_24 : decode cX5_findingOfBook 24 = .ok (.ireturn, 1) := by decide +kernel
theorem dX5_findingOfBook_25 : decode cX5_findingOfBook 25 = .ok (.aload_n 0, 1) := by decide +kernel
theorem dX5_findingOfBook_26 : decode cX5_findingOfBook 26 = .ok (.getfield 10, 3) := by decide +kernel
theorem dX5_findingOfBook_29 : decode cX5_findingOfBook 29 = .ok (.iload_n 2, 1) := by decide +kernel
theorem dX5_findingOfBook_30 : decode cX5_findingOfBook 30 = .ok (.invokevirtual 98, 3) := by decide +kernel
theorem dX5_findingOfBook_33 : decode cX5_findingOfBook 33 = .ok (.ifCond .eq 7, 3) := by decide +kernel
theorem dX5_findingOfBook_36 : decode cX5_findingOfBook 36 = .ok (.iconst 0, 1) := by decide +kernel
theorem dX5_findingOfBook_37 : decode cX5_findingOfBook 37 = .ok (.goto 5, 3) := by decide +kernel
theorem dX5_findingOfBook_40 : decode cX5_findingOfBook 40 = .ok (.ldc 52, 2) := by decide +kernel
theorem dX5_findingOfBook_42 : decode cX5_findingOfBook 42 = .ok (.ireturn, 1) := by decide +kernel
set_option maxRecDepth 20000 in
theorem ggX5_trialGoesAs_X3_findMore : GoodIn wsX5_trialGoesAs wsX3_findMore := goodIn_r _ [9, 10, 11, 12, 13, 14, 15, 8, 16, 17, 18, 19, 20, 21, 22, 23, 24, 25, 26, 27, 28, 29, 30, 31, 32, 33, 34, 35, 36, 37, 38, 39, 40, 41, 42, 43, 44, 45, 46, 47, 48, 49, 50, 51, 52, 53, 54, 55, 56, 57, 101, 102, 103, 104, 105, 106, 107, 108, 109, 110, 111, 112, 113] (by decide +kernel) (by decide +kernel)
set_option maxRecDepth 20000 in
theorem gX5_trialGoesAs_X3_findMore : GoodIn wsX5_trialGoesAs (wsV RX5 154 RX3 yX3_findMore wsX3_findMore) := goodIn_app (goodIn_of _ (by decide +kernel)) ggX5_trialGoesAs_X3_findMore
set_option maxRecDepth 20000 in
theorem ggX5_trialGoesAs_X3_serveOne : GoodIn wsX5_trialGoesAs wsX3_serveOne := goodIn_r _ [61, 10, 62, 11, 63, 64, 65, 66, 67, 68, 69, 70, 71, 12, 72, 73, 74, 75, 8, 76, 77, 78, 79, 80, 18, 21, 17, 81, 82, 45, 83, 84, 85, 86, 87, 88, 89, 90, 36, 37, 38, 39, 40, 41, 42, 101, 102, 103, 104, 105, 106, 107, 108, 109, 110, 111, 112, 113] (by decide +kernel) (by decide +kernel)
set_option maxRecDepth 20000 in
theorem gX5_trialGoesAs_X3_serveOne : GoodIn wsX5_trialGoesAs (wsV RX5 157 RX3 yX3_serveOne wsX3_serveOne) := goodIn_app (goodIn_of _ (by decide +kernel)) ggX5_trialGoesAs_X3_serveOne
theorem dX5_trialGoesAs_0 : decode cX5_trialGoesAs 0 = .ok (.aload_n 0, 1) := by decide +kernel
theorem dX5_trialGoesAs_1 : decode cX5_trialGoesAs 1 = .ok (.getfield 16, 3) := by decide +kernel
theorem dX5_trialGoesAs_4 : decode cX5_trialGoesAs 4 = .ok (.invokevirtual 154, 3) := by decide +kernel
theorem dX5_trialGoesAs_7 : decode cX5_trialGoesAs 7 = .ok (.iconst 0, 1) := by decide +kernel
theorem dX5_trialGoesAs_8 : decode cX5_trialGoesAs 8 = .ok (.istore_n 3, 1) := by decide +kernel
theorem dX5_trialGoesAs_9 : decode cX5_trialGoesAs 9 = .ok (.iload_n 3, 1) := by decide +kernel
theorem dX5_trialGoesAs_10 : decode cX5_trialGoesAs 10 = .ok (.aload_n 1, 1) := by decide +kernel
theorem dX5_trialGoesAs_11 : decode cX5_trialGoesAs 11 = .ok (.getfield 189, 3) := by decide +kernel
theorem dX5_trialGoesAs_14 : decode cX5_trialGoesAs 14 = .ok (.if_icmp .ge 38, 3) := by decide +kernel
theorem dX5_trialGoesAs_17 : decode cX5_trialGoesAs 17 = .ok (.aload_n 1, 1) := by decide +kernel
theorem dX5_trialGoesAs_18 : decode cX5_trialGoesAs 18 = .ok (.getfield 198, 3) := by decide +kernel
theorem dX5_trialGoesAs_21 : decode cX5_trialGoesAs 21 = .ok (.iload_n 3, 1) := by decide +kernel
theorem dX5_trialGoesAs_22 : decode cX5_trialGoesAs 22 = .ok (.laload, 1) := by decide +kernel
theorem dX5_trialGoesAs_23 : decode cX5_trialGoesAs 23 = .ok (.aload_n 0, 1) := by decide +kernel
theorem dX5_trialGoesAs_24 : decode cX5_trialGoesAs 24 = .ok (.getfield 16, 3) := by decide +kernel
theorem dX5_trialGoesAs_27 : decode cX5_trialGoesAs 27 = .ok (.getfield 107, 3) := by decide +kernel
theorem dX5_trialGoesAs_30 : decode cX5_trialGoesAs 30 = .ok (.iload_n 2, 1) := by decide +kernel
theorem dX5_trialGoesAs_31 : decode cX5_trialGoesAs 31 = .ok (.iaload, 1) := by decide +kernel
theorem dX5_trialGoesAs_32 : decode cX5_trialGoesAs 32 = .ok (.i2l, 1) := by decide +kernel
theorem dX5_trialGoesAs_33 : decode cX5_trialGoesAs 33 = .ok (.lcmp, 1) := by decide +kernel
theorem dX5_trialGoesAs_34 : decode cX5_trialGoesAs 34 = .ok (.ifCond .eq 5, 3) := by decide +kernel
theorem dX5_trialGoesAs_37 : decode cX5_trialGoesAs 37 = .ok (.iconst 0, 1) := by decide +kernel
theorem dX5_trialGoesAs_38 : decode cX5_trialGoesAs 38 = .ok (.ireturn, 1) := by decide +kernel
theorem dX5_trialGoesAs_39 : decode cX5_trialGoesAs 39 = .ok (.aload_n 0, 1) := by decide +kernel
theorem dX5_trialGoesAs_40 : decode cX5_trialGoesAs 40 = .ok (.getfield 16, 3) := by decide +kernel
theorem dX5_trialGoesAs_43 : decode cX5_trialGoesAs 43 = .ok (.invokevirtual 157, 3) := by decide +kernel
theorem dX5_trialGoesAs_46 : decode cX5_trialGoesAs 46 = .ok (.iinc 3 1, 3) := by decide +kernel
theorem dX5_trialGoesAs_49 : decode cX5_trialGoesAs 49 = .ok (.goto (-40), 3) := by decide +kernel
theorem dX5_trialGoesAs_52 : decode cX5_trialGoesAs 52 = .ok (.iconst 1, 1) := by decide +kernel
theorem dX5_trialGoesAs_53 : decode cX5_trialGoesAs 53 = .ok (.ireturn, 1) := by decide +kernel
theorem dX5_within_0 : decode cX5_within 0 = .ok (.iload_n 0, 1) := by decide +kernel
theorem dX5_within_1 : decode cX5_within 1 = .ok (.iload_n 1, 1) := by decide +kernel
theorem dX5_within_2 : decode cX5_within 2 = .ok (.if_icmp .lt 12, 3) := by decide +kernel
theorem dX5_within_5 : decode cX5_within 5 = .ok (.iload_n 0, 1) := by decide +kernel
theorem dX5_within_6 : decode cX5_within 6 = .ok (.iload_n 2, 1) := by decide +kernel
theorem dX5_within_7 : decode cX5_within 7 = .ok (.if_icmp .gt 7, 3) := by decide +kernel
theorem dX5_within_10 : decode cX5_within 10 = .ok (.iconst 1, 1) := by decide +kernel
theorem dX5_within_11 : decode cX5_within 11 = .ok (.goto 4, 3) := by decide +kernel
theorem dX5_within_14 : decode cX5_within 14 = .ok (.iconst 0, 1) := by decide +kernel
theorem dX5_within_15 : decode cX5_within 15 = .ok (.ireturn, 1) := by decide +kernel
theorem dX5_isPlace_0 : decode cX5_isPlace 0 = .ok (.iload_n 0, 1) := by decide +kernel
theorem dX5_isPlace_1 : decode cX5_isPlace 1 = .ok (.ifCond .lt 13, 3) := by decide +kernel
theorem dX5_isPlace_4 : decode cX5_isPlace 4 = .ok (.iload_n 0, 1) := by decide +kernel
theorem dX5_isPlace_5 : decode cX5_isPlace 5 = .ok (.bipush 10, 2) := by decide +kernel
theorem dX5_isPlace_7 : decode cX5_isPlace 7 = .ok (.if_icmp .ge 7, 3) := by decide +kernel
theorem dX5_isPlace_10 : decode cX5_isPlace 10 = .ok (.iconst 1, 1) := by decide +kernel
theorem dX5_isPlace_11 : decode cX5_isPlace 11 = .ok (.goto 4, 3) := by decide +kernel
theorem dX5_isPlace_14 : decode cX5_isPlace 14 = .ok (.iconst 0, 1) := by decide +kernel
theorem dX5_isPlace_15 : decode cX5_isPlace 15 = .ok (.ireturn, 1) := by decide +kernel
theorem dX5_isKind_0 : decode cX5_isKind 0 = .ok (.iload_n 0, 1) := by decide +kernel
theorem dX5_isKind_1 : decode cX5_isKind 1 = .ok (.ifCond .lt 13, 3) := by decide +kernel
theorem dX5_isKind_4 : decode cX5_isKind 4 = .ok (.iload_n 0, 1) := by decide +kernel
theorem dX5_isKind_5 : decode cX5_isKind 5 = .ok (.bipush 6, 2) := by decide +kernel
theorem dX5_isKind_7 : decode cX5_isKind 7 = .ok (.if_icmp .ge 7, 3) := by decide +kernel
theorem dX5_isKind_10 : decode cX5_isKind 10 = .ok (.iconst 1, 1) := by decide +kernel
theorem dX5_isKind_11 : decode cX5_isKind 11 = .ok (.goto 4, 3) := by decide +kernel
theorem dX5_isKind_14 : decode cX5_isKind 14 = .ok (.iconst 0, 1) := by decide +kernel
theorem dX5_isKind_15 : decode cX5_isKind 15 = .ok (.ireturn, 1) := by decide +kernel
theorem dX5_isSheet_0 : decode cX5_isSheet 0 = .ok (.iload_n 0, 1) := by decide +kernel
theorem dX5_isSheet_1 : decode cX5_isSheet 1 = .ok (.ifCond .lt 12, 3) := by decide +kernel
theorem dX5_isSheet_4 : decode cX5_isSheet 4 = .ok (.iload_n 0, 1) := by decide +kernel
theorem dX5_isSheet_5 : decode cX5_isSheet 5 = .ok (.iconst 4, 1) := by decide +kernel
theorem dX5_isSheet_6 : decode cX5_isSheet 6 = .ok (.if_icmp .ge 7, 3) := by decide +kernel
theorem dX5_isSheet_9 : decode cX5_isSheet 9 = .ok (.iconst 1, 1) := by decide +kernel
theorem dX5_isSheet_10 : decode cX5_isSheet 10 = .ok (.goto 4, 3) := by decide +kernel
theorem dX5_isSheet_13 : decode cX5_isSheet 13 = .ok (.iconst 0, 1) := by decide +kernel
theorem dX5_isSheet_14 : decode cX5_isSheet 14 = .ok (.ireturn, 1) := by decide +kernel
theorem dX6_init_0 : decode cX6_init 0 = .ok (.aload_n 0, 1) := by decide +kernel
theorem dX6_init_1 : decode cX6_init 1 = .ok (.invokespecial 1, 3) := by decide +kernel
theorem dX6_init_4 : decode cX6_init 4 = .ok (.aload_n 0, 1) := by decide +kernel
theorem dX6_init_5 : decode cX6_init 5 = .ok (.bipush 72, 2) := by decide +kernel
theorem dX6_init_7 : decode cX6_init 7 = .ok (.newarray .int, 2) := by decide +kernel
theorem dX6_init_9 : decode cX6_init 9 = .ok (.putfield 7, 3) := by decide +kernel
theorem dX6_init_12 : decode cX6_init 12 = .ok (.aload_n 0, 1) := by decide +kernel
theorem dX6_init_13 : decode cX6_init 13 = .ok (.bipush 7, 2) := by decide +kernel
theorem dX6_init_15 : decode cX6_init 15 = .ok (.newarray .int, 2) := by decide +kernel
theorem dX6_init_17 : decode cX6_init 17 = .ok (.putfield 13, 3) := by decide +kernel
theorem dX6_init_20 : decode cX6_init 20 = .ok (.aload_n 0, 1) := by decide +kernel
theorem dX6_init_21 : decode cX6_init 21 = .ok (.bipush 8, 2) := by decide +kernel
theorem dX6_init_23 : decode cX6_init 23 = .ok (.newarray .int, 2) := by decide +kernel
theorem dX6_init_25 : decode cX6_init 25 = .ok (.putfield 16, 3) := by decide +kernel
theorem dX6_init_28 : decode cX6_init 28 = .ok (.aload_n 0, 1) := by decide +kernel
theorem dX6_init_29 : decode cX6_init 29 = .ok (.bipush 72, 2) := by decide +kernel
theorem dX6_init_31 : decode cX6_init 31 = .ok (.newarray .int, 2) := by decide +kernel
theorem dX6_init_33 : decode cX6_init 33 = .ok (.putfield 19, 3) := by decide +kernel
theorem dX6_init_36 : decode cX6_init 36 = .ok (.aload_n 0, 1) := by decide +kernel
theorem dX6_init_37 : decode cX6_init 37 = .ok (.bipush 72, 2) := by decide +kernel
theorem dX6_init_39 : decode cX6_init 39 = .ok (.newarray .int, 2) := by decide +kernel
theorem dX6_init_41 : decode cX6_init 41 = .ok (.putfield 22, 3) := by decide +kernel
theorem dX6_init_44 : decode cX6_init 44 = .ok (.aload_n 0, 1) := by decide +kernel
theorem dX6_init_45 : decode cX6_init 45 = .ok (.bipush 120, 2) := by decide +kernel
theorem dX6_init_47 : decode cX6_init 47 = .ok (.newarray .int, 2) := by decide +kernel
theorem dX6_init_49 : decode cX6_init 49 = .ok (.putfield 25, 3) := by decide +kernel
theorem dX6_init_52 : decode cX6_init 52 = .ok (.aload_n 0, 1) := by decide +kernel
theorem dX6_init_53 : decode cX6_init 53 = .ok (.iconst 4, 1) := by decide +kernel
theorem dX6_init_54 : decode cX6_init 54 = .ok (.newarray .int, 2) := by decide +kernel
theorem dX6_init_56 : decode cX6_init 56 = .ok (.putfield 28, 3) := by decide +kernel
theorem dX6_init_59 : decode cX6_init 59 = .ok (.aload_n 0, 1) := by decide +kernel
theorem dX6_init_60 : decode cX6_init 60 = .ok (.iconst 4, 1) := by decide +kernel
theorem dX6_init_61 : decode cX6_init 61 = .ok (.newarray .int, 2) := by decide +kernel
theorem dX6_init_63 : decode cX6_init 63 = .ok (.putfield 31, 3) := by decide +kernel
theorem dX6_init_66 : decode cX6_init 66 = .ok (.aload_n 0, 1) := by decide +kernel
theorem dX6_init_67 : decode cX6_init 67 = .ok (.sipush 160, 3) := by decide +kernel
theorem dX6_init_70 : decode cX6_init 70 = .ok (.newarray .long, 2) := by decide +kernel
theorem dX6_init_72 : decode cX6_init 72 = .ok (.putfield 34, 3) := by decide +kernel
theorem dX6_init_75 : decode cX6_init 75 = .ok (.aload_n 0, 1) := by decide +kernel
theorem dX6_init_76 : decode cX6_init 76 = .ok (.bipush 40, 2) := by decide +kernel
theorem dX6_init_78 : decode cX6_init 78 = .ok (.newarray .long, 2) := by decide +kernel
theorem dX6_init_80 : decode cX6_init 80 = .ok (.putfield 38, 3) := by decide +kernel
theorem dX6_init_83 : decode cX6_init 83 = .ok (.aload_n 0, 1) := by decide +kernel
theorem dX6_init_84 : decode cX6_init 84 = .ok (.bipush 72, 2) := by decide +kernel
theorem dX6_init_86 : decode cX6_init 86 = .ok (.newarray .int, 2) := by decide +kernel
theorem dX6_init_88 : decode cX6_init 88 = .ok (.putfield 41, 3) := by decide +kernel
theorem dX6_init_91 : decode cX6_init 91 = .ok (.aload_n 0, 1) := by decide +kernel
theorem dX6_init_92 : decode cX6_init 92 = .ok (.bipush 72, 2) := by decide +kernel
theorem dX6_init_94 : decode cX6_init 94 = .ok (.newarray .int, 2) := by decide +kernel
theorem dX6_init_96 : decode cX6_init 96 = .ok (.putfield 44, 3) := by decide +kernel
theorem dX6_init_99 : decode cX6_init 99 = .ok (.aload_n 0, 1) := by decide +kernel
theorem dX6_init_100 : decode cX6_init 100 = .ok (.getfield 7, 3) := by decide +kernel
theorem dX6_init_103 : decode cX6_init 103 = .ok (.iconst 0, 1) := by decide +kernel
theorem dX6_init_104 : decode cX6_init 104 = .ok (.iconst 0, 1) := by decide +kernel
theorem dX6_init_105 : decode cX6_init 105 = .ok (.iastore, 1) := by decide +kernel
theorem dX6_init_106 : decode cX6_init 106 = .ok (.return_, 1) := by decide +kernel
theorem dX6_in_0 : decode cX6_in 0 = .ok (.iload_n 0, 1) := by decide +kernel
theorem dX6_in_1 : decode cX6_in 1 = .ok (.iload_n 1, 1) := by decide +kernel
theorem dX6_in_2 : decode cX6_in 2 = .ok (.if_icmp .lt 12, 3) := by decide +kernel
theorem dX6_in_5 : decode cX6_in 5 = .ok (.iload_n 0, 1) := by decide +kernel
theorem dX6_in_6 : decode cX6_in 6 = .ok (.iload_n 2, 1) := by decide +kernel
theorem dX6_in_7 : decode cX6_in 7 = .ok (.if_icmp .gt 7, 3) := by decide +kernel
theorem dX6_in_10 : decode cX6_in 10 = .ok (.iconst 1, 1) := by decide +kernel
theorem dX6_in_11 : decode cX6_in 11 = .ok (.goto 4, 3) := by decide +kernel
theorem dX6_in_14 : decode cX6_in 14 = .ok (.iconst 0, 1) := by decide +kernel
theorem dX6_in_15 : decode cX6_in 15 = .ok (.ireturn, 1) := by decide +kernel
theorem dX6_finds_0 : decode cX6_finds 0 = .ok (.aload_n 0, 1) := by decide +kernel
theorem dX6_finds_1 : decode cX6_finds 1 = .ok (.getfield 13, 3) := by decide +kernel
theorem dX6_finds_4 : decode cX6_finds 4 = .ok (.ldc 47, 2) := by decide +kernel
theorem dX6_finds_6 : decode cX6_finds 6 = .ok (.iload_n 1, 1) := by decide +kernel
theorem dX6_finds_7 : decode cX6_finds 7 = .ok (.isub, 1) := by decide +kernel
theorem dX6_finds_8 : decode cX6_finds 8 = .ok (.dup2, 1) := by decide +kernel
theorem dX6_finds_9 : decode cX6_finds 9 = .ok (.iaload, 1) := by decide +kernel
theorem dX6_finds_10 : decode cX6_finds 10 = .ok (.iconst 1, 1) := by decide +kernel
theorem dX6_finds_11 : decode cX6_finds 11 = .ok (.iadd, 1) := by decide +kernel
theorem dX6_finds_12 : decode cX6_finds 12 = .ok (.iastore, 1) := by decide +kernel
theorem dX6_finds_13 : decode cX6_finds 13 = .ok (.iload_n 1, 1) := by decide +kernel
theorem dX6_finds_14 : decode cX6_finds 14 = .ok (.ireturn, 1) := by decide +kernel
theorem dX6_held_0 : decode cX6_held 0 = .ok (.iload_n 0, 1) := by decide +kernel
theorem dX6_held_1 : decode cX6_held 1 = .ok (.iload_n 1, 1) := by decide +kernel
theorem dX6_held_2 : decode cX6_held 2 = .ok (.if_icmp .ge 7, 3) := by decide +kernel
theorem dX6_held_5 : decode cX6_held 5 = .ok (.iload_n 1, 1) := by decide +kernel
theorem dX6_held_6 : decode cX6_held 6 = .ok (.goto 13, 3) := by decide +kernel
theorem dX6_held_9 : decode cX6_held 9 = .ok (.iload_n 0, 1) := by decide +kernel
theorem dX6_held_10 : decode cX6_held 10 = .ok (.iload_n 2, 1) := by decide +kernel
theorem dX6_held_11 : decode cX6_held 11 = .ok (.if_icmp .le 7, 3) := by decide +kernel
theorem dX6_held_14 : decode cX6_held 14 = .ok (.iload_n 2, 1) := by decide +kernel
theorem dX6_held_15 : decode cX6_held 15 = .ok (.goto 4, 3) := by decide +kernel
theorem dX6_held_18 : decode cX6_held 18 = .ok (.iload_n 0, 1) := by decide +kernel
theorem dX6_held_19 : decode cX6_held 19 = .ok (.ireturn, 1) := by decide +kernel
theorem dX6_its_0 : decode cX6_its 0 = .ok (.aload_n 0, 1) := by decide +kernel
theorem dX6_its_1 : decode cX6_its 1 = .ok (.getfield 7, 3) := by decide +kernel
theorem dX6_its_4 : decode cX6_its 4 = .ok (.bipush 32, 2) := by decide +kernel
theorem dX6_its_6 : decode cX6_its 6 = .ok (.iconst 5, 1) := by decide +kernel
theorem dX6_its_7 : decode cX6_its 7 = .ok (.iload_n 1, 1) := by decide +kernel
theorem dX6_its_8 : decode cX6_its 8 = .ok (.imul, 1) := by decide +kernel
theorem dX6_its_9 : decode cX6_its 9 = .ok (.iadd, 1) := by decide +kernel
theorem dX6_its_10 : decode cX6_its 10 = .ok (.iload_n 2, 1) := by decide +kernel
theorem dX6_its_11 : decode cX6_its 11 = .ok (.iadd, 1) := by decide +kernel
theorem dX6_its_12 : decode cX6_its 12 = .ok (.iaload, 1) := by decide +kernel
theorem dX6_its_13 : decode cX6_its 13 = .ok (.ireturn, 1) := by decide +kernel
theorem dX6_puts_0 : decode cX6_puts 0 = .ok (.aload_n 0, 1) := by decide +kernel
theorem dX6_puts_1 : decode cX6_puts 1 = .ok (.getfield 7, 3) := by decide +kernel
theorem dX6_puts_4 : decode cX6_puts 4 = .ok (.bipush 32, 2) := by decide +kernel
theorem dX6_puts_6 : decode cX6_puts 6 = .ok (.iconst 5, 1) := by decide +kernel
theorem dX6_puts_7 : decode cX6_puts 7 = .ok (.iload_n 1, 1) := by decide +kernel
theorem dX6_puts_8 : decode cX6_puts 8 = .ok (.imul, 1) := by decide +kernel
theorem dX6_puts_9 : decode cX6_puts 9 = .ok (.iadd, 1) := by decide +kernel
theorem dX6_puts_10 : decode cX6_puts 10 = .ok (.iload_n 2, 1) := by decide +kernel
theorem dX6_puts_11 : decode cX6_puts 11 = .ok (.iadd, 1) := by decide +kernel
theorem dX6_puts_12 : decode cX6_puts 12 = .ok (.iload_n 3, 1) := by decide +kernel
theorem dX6_puts_13 : decode cX6_puts 13 = .ok (.iastore, 1) := by decide +kernel
theorem dX6_puts_14 : decode cX6_puts 14 = .ok (.return_, 1) := by decide +kernel
theorem dX6_laidAt_0 : decode cX6_laidAt 0 = .ok (.aload_n 0, 1) := by decide +kernel
theorem dX6_laidAt_1 : decode cX6_laidAt 1 = .ok (.getfield 7, 3) := by decide +kernel
theorem dX6_laidAt_4 : decode cX6_laidAt 4 = .ok (.iconst 2, 1) := by decide +kernel
theorem dX6_laidAt_5 : decode cX6_laidAt 5 = .ok (.iconst 3, 1) := by decide +kernel
theorem dX6_laidAt_6 : decode cX6_laidAt 6 = .ok (.iload_n 1, 1) := by decide +kernel
theorem dX6_laidAt_7 : decode cX6_laidAt 7 = .ok (.imul, 1) := by decide +kernel
theorem dX6_laidAt_8 : decode cX6_laidAt 8 = .ok (.iadd, 1) := by decide +kernel
theorem dX6_laidAt_9 : decode cX6_laidAt 9 = .ok (.iload_n 2, 1) := by decide +kernel
theorem dX6_laidAt_10 : decode cX6_laidAt 10 = .ok (.iadd, 1) := by decide +kernel
theorem dX6_laidAt_11 : decode cX6_laidAt 11 = .ok (.iaload, 1) := by decide +kernel
theorem dX6_laidAt_12 : decode cX6_laidAt 12 = .ok (.ireturn, 1) := by decide +kernel
theorem dX6_becomes_0 : decode cX6_becomes 0 = .ok (.aload_n 0, 1) := by decide +kernel
theorem dX6_becomes_1 : decode cX6_becomes 1 = .ok (.getfield 7, 3) := by decide +kernel
theorem dX6_becomes_4 : decode cX6_becomes 4 = .ok (.iload_n 1, 1) := by decide +kernel
theorem dX6_becomes_5 : decode cX6_becomes 5 = .ok (.iaload, 1) := by decide +kernel
theorem dX6_becomes_6 : decode cX6_becomes 6 = .ok (.istore_n 3, 1) := by decide +kernel
theorem dX6_becomes_7 : decode cX6_becomes 7 = .ok (.aload_n 0, 1) := by decide +kernel
theorem dX6_becomes_8 : decode cX6_becomes 8 = .ok (.getfield 7, 3) := by decide +kernel
theorem dX6_becomes_11 : decode cX6_becomes 11 = .ok (.iload_n 1, 1) := by decide +kernel
theorem dX6_becomes_12 : decode cX6_becomes 12 = .ok (.iload_n 2, 1) := by decide +kernel
theorem dX6_becomes_13 : decode cX6_becomes 13 = .ok (.iastore, 1) := by decide +kernel
theorem dX6_becomes_14 : decode cX6_becomes 14 = .ok (.iload_n 3, 1) := by decide +kernel
theorem dX6_becomes_15 : decode cX6_becomes 15 = .ok (.ireturn, 1) := by decide +kernel
set_option maxRecDepth 20000 in
theorem ggX6_isOne_X6_in : GoodIn wsX6_isOne wsX6_in := goodIn_r _ [5] (by decide +kernel) (by decide +kernel)
set_option maxRecDepth 20000 in
theorem gX6_isOne_X6_in : GoodIn wsX6_isOne (va_wsS RX6 48 yX6_in wsX6_in) := goodIn_app (goodIn_of _ (by decide +kernel)) ggX6_isOne_X6_in
theorem dX6_isOne_0 : decode cX6_isOne 0 = .ok (.iload_n 1, 1) := by decide +kernel
theorem dX6_isOne_1 : decode cX6_isOne 1 = .ok (.iconst 0, 1) := by decide +kernel
theorem dX6_isOne_2 : decode cX6_isOne 2 = .ok (.aload_n 0, 1) := by decide +kernel
theorem dX6_isOne_3 : decode cX6_isOne 3 = .ok (.getfield 7, 3) := by decide +kernel
theorem dX6_isOne_6 : decode cX6_isOne 6 = .ok (.iconst 1, 1) := by decide +kernel
theorem dX6_isOne_7 : decode cX6_isOne 7 = .ok (.iaload, 1) := by decide +kernel
theorem dX6_isOne_8 : decode cX6_isOne 8 = .ok (.iconst 1, 1) := by decide +kernel
theorem dX6_isOne_9 : decode cX6_isOne 9 = .ok (.isub, 1) := by decide +kernel
theorem dX6_isOne_10 : decode cX6_isOne 10 = .ok (.invokestatic 48, 3) := by decide +kernel
theorem dX6_isOne_13 : decode cX6_isOne 13 = .ok (.ireturn, 1) := by decide +kernel
set_option maxRecDepth 20000 in
theorem ggX6_isKind_X6_in : GoodIn wsX6_isKind wsX6_in := goodIn_r _ [4] (by decide +kernel) (by decide +kernel)
set_option maxRecDepth 20000 in
theorem gX6_isKind_X6_in : GoodIn wsX6_isKind (va_wsS RX6 48 yX6_in wsX6_in) := goodIn_app (goodIn_of _ (by decide +kernel)) ggX6_isKind_X6_in
theorem dX6_isKind_0 : decode cX6_isKind 0 = .ok (.iload_n 0, 1) := by decide +kernel
theorem dX6_isKind_1 : decode cX6_isKind 1 = .ok (.iconst 0, 1) := by decide +kernel
theorem dX6_isKind_2 : decode cX6_isKind 2 = .ok (.iconst 5, 1) := by decide +kernel
theorem dX6_isKind_3 : decode cX6_isKind 3 = .ok (.invokestatic 48, 3) := by decide +kernel
theorem dX6_isKind_6 : decode cX6_isKind 6 = .ok (.ireturn, 1) := by decide +kernel
set_option maxRecDepth 20000 in
theorem ggX6_isPlace_X6_in : GoodIn wsX6_isPlace wsX6_in := goodIn_r _ [4] (by decide +kernel) (by decide +kernel)
set_option maxRecDepth 20000 in
theorem gX6_isPlace_X6_in : GoodIn wsX6_isPlace (va_wsS RX6 48 yX6_in wsX6_in) := goodIn_app (goodIn_of _ (by decide +kernel)) ggX6_isPlace_X6_in
theorem dX6_isPlace_0 : decode cX6_isPlace 0 = .ok (.iload_n 0, 1) := by decide +kernel
theorem dX6_isPlace_1 : decode cX6_isPlace 1 = .ok (.iconst 0, 1) := by decide +kernel
theorem dX6_isPlace_2 : decode cX6_isPlace 2 = .ok (.bipush 9, 2) := by decide +kernel
theorem dX6_isPlace_4 : decode cX6_isPlace 4 = .ok (.invokestatic 48, 3) := by decide +kernel
theorem dX6_isPlace_7 : decode cX6_isPlace 7 = .ok (.ireturn, 1) := by decide +kernel
set_option maxRecDepth 20000 in
theorem ggX6_whoAt_X6_its : GoodIn wsX6_whoAt wsX6_its := goodIn_r _ [6, 1, 7, 8, 9, 10, 11, 12, 13, 14, 15, 16, 17, 18, 19, 20, 21, 22, 23, 24, 25, 26] (by decide +kernel) (by decide +kernel)
set_option maxRecDepth 20000 in
theorem gX6_whoAt_X6_its : GoodIn wsX6_whoAt (wsV RX6 52 RX6 yX6_its wsX6_its) := goodIn_app (goodIn_of _ (by decide +kernel)) ggX6_whoAt_X6_its
theorem dX6_whoAt_0 : decode cX6_whoAt 0 = .ok (.iconst (-1), 1) := by decide +kernel
theorem dX6_whoAt_1 : decode cX6_whoAt 1 = .ok (.istore_n 2, 1) := by decide +kernel
theorem dX6_whoAt_2 : decode cX6_whoAt 2 = .ok (.iconst 0, 1) := by decide +kernel
theorem dX6_whoAt_3 : decode cX6_whoAt 3 = .ok (.istore_n 3, 1) := by decide +kernel
theorem dX6_whoAt_4 : decode cX6_whoAt 4 = .ok (.iload_n 3, 1) := by decide +kernel
theorem dX6_whoAt_5 : decode cX6_whoAt 5 = .ok (.aload_n 0, 1) := by decide +kernel
theorem dX6_whoAt_6 : decode cX6_whoAt 6 = .ok (.getfield 7, 3) := by decide +kernel
theorem dX6_whoAt_9 : decode cX6_whoAt 9 = .ok (.iconst 1, 1) := by decide +kernel
theorem dX6_whoAt_10 : decode cX6_whoAt 10 = .ok (.iaload, 1) := by decide +kernel
theorem dX6_whoAt_11 : decode cX6_whoAt 11 = .ok (.if_icmp .ge 25, 3) := by decide +kernel
theorem dX6_whoAt_14 : decode cX6_whoAt 14 = .ok (.aload_n 0, 1) := by decide +kernel
theorem dX6_whoAt_15 : decode cX6_whoAt 15 = .ok (.iload_n 3, 1) := by decide +kernel
theorem dX6_whoAt_16 : decode cX6_whoAt 16 = .ok (.iconst 1, 1) := by decide +kernel
theorem dX6_whoAt_17 : decode cX6_whoAt 17 = .ok (.invokevirtual 52, 3) := by decide +kernel
theorem dX6_whoAt_20 : decode cX6_whoAt 20 = .ok (.iload_n 1, 1) := by decide +kernel
theorem dX6_whoAt_21 : decode cX6_whoAt 21 = .ok (.if_icmp .ne 7, 3) := by decide +kernel
theorem dX6_whoAt_24 : decode cX6_whoAt 24 = .ok (.iload_n 3, 1) := by decide +kernel
theorem dX6_whoAt_25 : decode cX6_whoAt 25 = .ok (.goto 4, 3) := by decide +kernel
theorem dX6_whoAt_28 : decode cX6_whoAt 28 = .ok (.iload_n 2, 1) := by decide +kernel
theorem dX6_whoAt_29 : decode cX6_whoAt 29 = .ok (.istore_n 2, 1) := by decide +kernel
theorem dX6_whoAt_30 : decode cX6_whoAt 30 = .ok (.iinc 3 1, 3) := by decide +kernel
theorem dX6_whoAt_33 : decode cX6_whoAt 33 = .ok (.goto (-29), 3) := by decide +kernel
theorem dX6_whoAt_36 : decode cX6_whoAt 36 = .ok (.iload_n 2, 1) := by decide +kernel
theorem dX6_whoAt_37 : decode cX6_whoAt 37 = .ok (.ireturn, 1) := by decide +kernel
set_option maxRecDepth 20000 in
theorem ggX6_beside_X6_its : GoodIn wsX6_beside wsX6_its := goodIn_r _ [5, 6, 11, 12, 13, 14, 15, 16, 17, 18, 19, 20, 21, 22, 23, 24, 25, 26, 27, 28, 29, 30] (by decide +kernel) (by decide +kernel)
set_option maxRecDepth 20000 in
theorem gX6_beside_X6_its : GoodIn wsX6_beside (wsV RX6 52 RX6 yX6_its wsX6_its) := goodIn_app (goodIn_of _ (by decide +kernel)) ggX6_beside_X6_its
set_option maxRecDepth 20000 in
theorem ggX6_beside_X6_whoAt : GoodIn wsX6_beside wsX6_whoAt := goodIn_r _ [10, 6, 1, 2, 3, 4, 5, 11, 12, 13, 14, 15, 16, 17, 18, 19, 20, 21, 22, 23, 24, 25, 26, 27, 28, 29, 30] (by decide +kernel) (by decide +kernel)
set_option maxRecDepth 20000 in
theorem gX6_beside_X6_whoAt : GoodIn wsX6_beside (wsV RX6 56 RX6 yX6_whoAt wsX6_whoAt) := goodIn_app (goodIn_of _ (by decide +kernel)) ggX6_beside_X6_whoAt
theorem dX6_beside_0 : decode cX6_beside 0 = .ok (.aload_n 0, 1) := by decide +kernel
theorem dX6_beside_1 : decode cX6_beside 1 = .ok (.aload_n 0, 1) := by decide +kernel
theorem dX6_beside_2 : decode cX6_beside 2 = .ok (.iload_n 1, 1) := by decide +kernel
theorem dX6_beside_3 : decode cX6_beside 3 = .ok (.iconst 1, 1) := by decide +kernel
theorem dX6_beside_4 : decode cX6_beside 4 = .ok (.invokevirtual 52, 3) := by decide +kernel
theorem dX6_beside_7 : decode cX6_beside 7 = .ok (.bipush 10, 2) := by decide +kernel
theorem dX6_beside_9 : decode cX6_beside 9 = .ok (.iadd, 1) := by decide +kernel
theorem dX6_beside_10 : decode cX6_beside 10 = .ok (.iload_n 2, 1) := by decide +kernel
theorem dX6_beside_11 : decode cX6_beside 11 = .ok (.iadd, 1) := by decide +kernel
theorem dX6_beside_12 : decode cX6_beside 12 = .ok (.bipush 10, 2) := by decide +kernel
theorem dX6_beside_14 : decode cX6_beside 14 = .ok (.irem, 1) := by decide +kernel
theorem dX6_beside_15 : decode cX6_beside 15 = .ok (.invokevirtual 56, 3) := by decide +kernel
theorem dX6_beside_18 : decode cX6_beside 18 = .ok (.ireturn, 1) := by decide +kernel
set_option maxRecDepth 20000 in
theorem ggX6_neighbours_X6_beside : GoodIn wsX6_neighbours wsX6_beside := goodIn_r _ [5, 6, 7, 8, 4, 9, 10, 11, 12, 13, 14, 15, 16, 17, 18, 19, 20, 21, 22, 23, 24, 25, 26, 27, 28, 29, 30, 31, 32, 33, 34] (by decide +kernel) (by decide +kernel)
set_option maxRecDepth 20000 in
theorem gX6_neighbours_X6_beside : GoodIn wsX6_neighbours (wsV RX6 60 RX6 yX6_beside wsX6_beside) := goodIn_app (goodIn_of _ (by decide +kernel)) ggX6_neighbours_X6_beside
theorem dX6_neighbours_0 : decode cX6_neighbours 0 = .ok (.aload_n 0, 1) := by decide +kernel
theorem dX6_neighbours_1 : decode cX6_neighbours 1 = .ok (.iload_n 1, 1) := by decide +kernel
theorem dX6_neighbours_2 : decode cX6_neighbours 2 = .ok (.iconst (-1), 1) := by decide +kernel
theorem dX6_neighbours_3 : decode cX6_neighbours 3 = .ok (.invokevirtual 60, 3) := by decide +kernel
theorem dX6_neighbours_6 : decode cX6_neighbours 6 = .ok (.istore_n 2, 1) := by decide +kernel
theorem dX6_neighbours_7 : decode cX6_neighbours 7 = .ok (.aload_n 0, 1) := by decide +kernel
theorem dX6_neighbours_8 : decode cX6_neighbours 8 = .ok (.iload_n 1, 1) := by decide +kernel
theorem dX6_neighbours_9 : decode cX6_neighbours 9 = .ok (.iconst 1, 1) := by decide +kernel
theorem dX6_neighbours_10 : decode cX6_neighbours 10 = .ok (.invokevirtual 60, 3) := by decide +kernel
theorem dX6_neighbours_13 : decode cX6_neighbours 13 = .ok (.istore_n 3, 1) := by decide +kernel
theorem dX6_neighbours_14 : decode cX6_neighbours 14 = .ok (.iload_n 2, 1) := by decide +kernel
theorem dX6_neighbours_15 : decode cX6_neighbours 15 = .ok (.ifCond .ge 7, 3) := by decide +kernel
theorem dX6_neighbours_18 : decode cX6_neighbours 18 = .ok (.iconst 0, 1) := by decide +kernel
theorem dX6_neighbours_19 : decode cX6_neighbours 19 = .ok (.goto 6, 3) := by decide +kernel
theorem dX6_neighbours_22 : decode cX6_neighbours 22 = .ok (.iconst 1, 1) := by decide +kernel
theorem dX6_neighbours_23 : decode cX6_neighbours 23 = .ok (.iload_n 2, 1) := by decide +kernel
theorem dX6_neighbours_24 : decode cX6_neighbours 24 = .ok (.ishl, 1) := by decide +kernel
theorem dX6_neighbours_25 : decode cX6_neighbours 25 = .ok (.iload_n 3, 1) := by decide +kernel
theorem dX6_neighbours_26 : decode cX6_neighbours 26 = .ok (.ifCond .ge 7, 3) := by decide +kernel
theorem dX6_neighbours_29 : decode cX6_neighbours 29 = .ok (.iconst 0, 1) := by decide +kernel
theorem dX6_neighbours_30 : decode cX6_neighbours 30 = .ok (.goto 6, 3) := by decide +kernel
theorem dX6_neighbours_33 : decode cX6_neighbours 33 = .ok (.iconst 1, 1) := by decide +kernel
theorem dX6_neighbours_34 : decode cX6_neighbours 34 = .ok (.iload_n 3, 1) := by decide +kernel
theorem dX6_neighbours_35 : decode cX6_neighbours 35 = .ok (.ishl, 1) := by decide +kernel
theorem dX6_neighbours_36 : decode cX6_neighbours 36 = .ok (.ior, 1) := by decide +kernel
theorem dX6_neighbours_37 : decode cX6_neighbours 37 = .ok (.ireturn, 1) := by decide +kernel
set_option maxRecDepth 20000 in
theorem ggX6_manyBeside_X6_beside : GoodIn wsX6_manyBeside wsX6_beside := goodIn_r _ [5, 6, 7, 8, 4, 9, 10, 11, 12, 13, 14, 15, 16, 17, 18, 19, 20, 21, 22, 23, 24, 25, 26, 27, 28, 29, 30, 31, 32, 33, 34] (by decide +kernel) (by decide +kernel)
set_option maxRecDepth 20000 in
theorem gX6_manyBeside_X6_beside : GoodIn wsX6_manyBeside (wsV RX6 60 RX6 yX6_beside wsX6_beside) := goodIn_app (goodIn_of _ (by decide +kernel)) ggX6_manyBeside_X6_beside
theorem dX6_manyBeside_0 : decode cX6_manyBeside 0 = .ok (.aload_n 0, 1) := by decide +kernel
theorem dX6_manyBeside_1 : decode cX6_manyBeside 1 = .ok (.iload_n 1, 1) := by decide +kernel
theorem dX6_manyBeside_2 : decode cX6_manyBeside 2 = .ok (.iconst (-1), 1) := by decide +kernel
theorem dX6_manyBeside_3 : decode cX6_manyBeside 3 = .ok (.invokevirtual 60, 3) := by decide +kernel
theorem dX6_manyBeside_6 : decode cX6_manyBeside 6 = .ok (.ifCond .ge 7, 3) := by decide +kernel
theorem dX6_manyBeside_9 : decode cX6_manyBeside 9 = .ok (.iconst 0, 1) := by decide +kernel
theorem dX6_manyBeside_10 : decode cX6_manyBeside 10 = .ok (.goto 4, 3) := by decide +kernel
theorem dX6_manyBeside_13 : decode cX6_manyBeside 13 = .ok (.iconst 1, 1) := by decide +kernel
theorem dX6_manyBeside_14 : decode cX6_manyBeside 14 = .ok (.aload_n 0, 1) := by decide +kernel
theorem dX6_manyBeside_15 : decode cX6_manyBeside 15 = .ok (.iload_n 1, 1) := by decide +kernel
theorem dX6_manyBeside_16 : decode cX6_manyBeside 16 = .ok (.iconst 1, 1) := by decide +kernel
theorem dX6_manyBeside_17 : decode cX6_manyBeside 17 = .ok (.invokevirtual 60, 3) := by decide +kernel
theorem dX6_manyBeside_20 : decode cX6_manyBeside 20 = .ok (.ifCond .ge 7, 3) := by decide +kernel
theorem dX6_manyBeside_23 : decode cX6_manyBeside 23 = .ok (.iconst 0, 1) := by decide +kernel
theorem dX6_manyBeside_24 : decode cX6_manyBeside 24 = .ok (.goto 4, 3) := by decide +kernel
theorem dX6_manyBeside_27 : decode cX6_manyBeside 27 = .ok (.iconst 1, 1) := by decide +kernel
theorem dX6_manyBeside_28 : decode cX6_manyBeside 28 = .ok (.iadd, 1) := by decide +kernel
theorem dX6_manyBeside_29 : decode cX6_manyBeside 29 = .ok (.ireturn, 1) := by decide +kernel
set_option maxRecDepth 20000 in
theorem ggX6_feels_X6_its : GoodIn wsX6_feels wsX6_its := goodIn_r _ [5, 6, 23, 24, 25, 26, 27, 28, 29, 30, 31, 32, 33, 34, 35, 36, 37, 38, 39, 40, 41, 42] (by decide +kernel) (by decide +kernel)
set_option maxRecDepth 20000 in
theorem gX6_feels_X6_its : GoodIn wsX6_feels (wsV RX6 52 RX6 yX6_its wsX6_its) := goodIn_app (goodIn_of _ (by decide +kernel)) ggX6_feels_X6_its
set_option maxRecDepth 20000 in
theorem ggX6_feels_X6_laidAt : GoodIn wsX6_feels wsX6_laidAt := goodIn_r _ [10, 6, 23, 24, 25, 26, 27, 28, 29, 30, 31, 32, 33, 34, 35, 36, 37, 38, 39, 40, 41, 42] (by decide +kernel) (by decide +kernel)
set_option maxRecDepth 20000 in
theorem gX6_feels_X6_laidAt : GoodIn wsX6_feels (wsV RX6 63 RX6 yX6_laidAt wsX6_laidAt) := goodIn_app (goodIn_of _ (by decide +kernel)) ggX6_feels_X6_laidAt
set_option maxRecDepth 20000 in
theorem ggX6_feels_X6_manyBeside : GoodIn wsX6_feels wsX6_manyBeside := goodIn_r _ [14, 15, 16, 17, 4, 18, 1, 2, 3, 5, 6, 19, 20, 21, 22, 23, 24, 25, 26, 27, 28, 29, 30, 31, 32, 33, 34, 35, 36, 37, 38, 39, 40, 41, 42] (by decide +kernel) (by decide +kernel)
set_option maxRecDepth 20000 in
theorem gX6_feels_X6_manyBeside : GoodIn wsX6_feels (wsV RX6 66 RX6 yX6_manyBeside wsX6_manyBeside) := goodIn_app (goodIn_of _ (by decide +kernel)) ggX6_feels_X6_manyBeside
theorem dX6_feels_0 : decode cX6_feels 0 = .ok (.aload_n 0, 1) := by decide +kernel
theorem dX6_feels_1 : decode cX6_feels 1 = .ok (.aload_n 0, 1) := by decide +kernel
theorem dX6_feels_2 : decode cX6_feels 2 = .ok (.iload_n 1, 1) := by decide +kernel
theorem dX6_feels_3 : decode cX6_feels 3 = .ok (.iconst 1, 1) := by decide +kernel
theorem dX6_feels_4 : decode cX6_feels 4 = .ok (.invokevirtual 52, 3) := by decide +kernel
theorem dX6_feels_7 : decode cX6_feels 7 = .ok (.iconst 0, 1) := by decide +kernel
theorem dX6_feels_8 : decode cX6_feels 8 = .ok (.invokevirtual 63, 3) := by decide +kernel
theorem dX6_feels_11 : decode cX6_feels 11 = .ok (.istore_n 2, 1) := by decide +kernel
theorem dX6_feels_12 : decode cX6_feels 12 = .ok (.aload_n 0, 1) := by decide +kernel
theorem dX6_feels_13 : decode cX6_feels 13 = .ok (.aload_n 0, 1) := by decide +kernel
theorem dX6_feels_14 : decode cX6_feels 14 = .ok (.iload_n 1, 1) := by decide +kernel
theorem dX6_feels_15 : decode cX6_feels 15 = .ok (.iconst 1, 1) := by decide +kernel
theorem dX6_feels_16 : decode cX6_feels 16 = .ok (.invokevirtual 52, 3) := by decide +kernel
theorem dX6_feels_19 : decode cX6_feels 19 = .ok (.iconst 1, 1) := by decide +kernel
theorem dX6_feels_20 : decode cX6_feels 20 = .ok (.invokevirtual 63, 3) := by decide +kernel
theorem dX6_feels_23 : decode cX6_feels 23 = .ok (.istore_n 3, 1) := by decide +kernel
theorem dX6_feels_24 : decode cX6_feels 24 = .ok (.aload_n 0, 1) := by decide +kernel
theorem dX6_feels_25 : decode cX6_feels 25 = .ok (.aload_n 0, 1) := by decide +kernel
theorem dX6_feels_26 : decode cX6_feels 26 = .ok (.iload_n 1, 1) := by decide +kernel
theorem dX6_feels_27 : decode cX6_feels 27 = .ok (.iconst 1, 1) := by decide +kernel
theorem dX6_feels_28 : decode cX6_feels 28 = .ok (.invokevirtual 52, 3) := by decide +kernel
theorem dX6_feels_31 : decode cX6_feels 31 = .ok (.iconst 2, 1) := by decide +kernel
theorem dX6_feels_32 : decode cX6_feels 32 = .ok (.invokevirtual 63, 3) := by decide +kernel
theorem dX6_feels_35 : decode cX6_feels 35 = .ok (.istore 4, 2) := by decide +kernel
theorem dX6_feels_37 : decode cX6_feels 37 = .ok (.aload_n 0, 1) := by decide +kernel
theorem dX6_feels_38 : decode cX6_feels 38 = .ok (.iload_n 1, 1) := by decide +kernel
theorem dX6_feels_39 : decode cX6_feels 39 = .ok (.invokevirtual 66, 3) := by decide +kernel
theorem dX6_feels_42 : decode cX6_feels 42 = .ok (.istore 5, 2) := by decide +kernel
theorem dX6_feels_44 : decode cX6_feels 44 = .ok (.iload_n 2, 1) := by decide +kernel
theorem dX6_feels_45 : decode cX6_feels 45 = .ok (.ifCond .ne 7, 3) := by decide +kernel
theorem dX6_feels_48 : decode cX6_feels 48 = .ok (.iconst 2, 1) := by decide +kernel
theorem dX6_feels_49 : decode cX6_feels 49 = .ok (.goto 5, 3) := by decide +kernel
theorem dX6_feels_52 : decode cX6_feels 52 = .ok (.bipush (-3), 2) := by decide +kernel
theorem dX6_feels_54 : decode cX6_feels 54 = .ok (.iload_n 3, 1) := by decide +kernel
theorem dX6_feels_55 : decode cX6_feels 55 = .ok (.iconst 1, 1) := by decide +kernel
theorem dX6_feels_56 : decode cX6_feels 56 = .ok (.if_icmp .ne 8, 3) := by decide +kernel
theorem dX6_feels_59 : decode cX6_feels 59 = .ok (.bipush (-4), 2) := by decide +kernel
theorem dX6_feels_61 : decode cX6_feels 61 = .ok (.goto 4, 3) := by decide +kernel
theorem dX6_feels_64 : decode cX6_feels 64 = .ok (.iconst 0, 1) := by decide +kernel
theorem dX6_feels_65 : decode cX6_feels 65 = .ok (.iadd, 1) := by decide +kernel
theorem dX6_feels_66 : decode cX6_feels 66 = .ok (.istore 6, 2) := by decide +kernel
theorem dX6_feels_68 : decode cX6_feels 68 = .ok (.aload_n 0, 1) := by decide +kernel
theorem dX6_feels_69 : decode cX6_feels 69 = .ok (.iload_n 1, 1) := by decide +kernel
theorem dX6_feels_70 : decode cX6_feels 70 = .ok (.iconst 0, 1) := by decide +kernel
theorem dX6_feels_71 : decode cX6_feels 71 = .ok (.invokevirtual 52, 3) := by decide +kernel
theorem dX6_feels_74 : decode cX6_feels 74 = .ok (.tableswitch 103 1 5 #[34, 62, 84, 40, 68], 34) := by decide +kernel
theorem dX6_feels_108 : decode cX6_feels 108 = .ok (.iload 6, 2) := by decide +kernel
theorem dX6_feels_110 : decode cX6_feels 110 = .ok (.iload 4, 2) := by decide +kernel
theorem dX6_feels_112 : decode cX6_feels 112 = .ok (.isub, 1) := by decide +kernel
theorem dX6_feels_113 : decode cX6_feels 113 = .ok (.ireturn, 1) := by decide +kernel
theorem dX6_feels_114 : decode cX6_feels 114 = .ok (.iload 5, 2) := by decide +kernel
theorem dX6_feels_116 : decode cX6_feels 116 = .ok (.iconst 2, 1) := by decide +kernel
theorem dX6_feels_117 : decode cX6_feels 117 = .ok (.if_icmp .ne 13, 3) := by decide +kernel
theorem dX6_feels_120 : decode cX6_feels 120 = .ok (.iconst 2, 1) := by decide +kernel
theorem dX6_feels_121 : decode cX6_feels 121 = .ok (.iload 6, 2) := by decide +kernel
theorem dX6_feels_123 : decode cX6_feels 123 = .ok (.iload 4, 2) := by decide +kernel
theorem dX6_feels_125 : decode cX6_feels 125 = .ok (.isub, 1) := by decide +kernel
theorem dX6_feels_126 : decode cX6_feels 126 = .ok (.imul, 1) := by decide +kernel
theorem dX6_feels_127 : decode cX6_feels 127 = .ok (.goto 8, 3) := by decide +kernel
theorem dX6_feels_130 : decode cX6_feels 130 = .ok (.iload 6, 2) := by decide +kernel
theorem dX6_feels_132 : decode cX6_feels 132 = .ok (.iload 4, 2) := by decide +kernel
theorem dX6_feels_134 : decode cX6_feels 134 = .ok (.isub, 1) := by decide +kernel
theorem dX6_feels_135 : decode cX6_feels 135 = .ok (.ireturn, 1) := by decide +kernel
theorem dX6_feels_136 : decode cX6_feels 136 = .ok (.iload 6, 2) := by decide +kernel
theorem dX6_feels_138 : decode cX6_feels 138 = .ok (.iload 5, 2) := by decide +kernel
theorem dX6_feels_140 : decode cX6_feels 140 = .ok (.iadd, 1) := by decide +kernel
theorem dX6_feels_141 : decode cX6_feels 141 = .ok (.ireturn, 1) := by decide +kernel
theorem dX6_feels_142 : decode cX6_feels 142 = .ok (.iload_n 3, 1) := by decide +kernel
theorem dX6_feels_143 : decode cX6_feels 143 = .ok (.iconst 1, 1) := by decide +kernel
theorem dX6_feels_144 : decode cX6_feels 144 = .ok (.if_icmp .ne 8, 3) := by decide +kernel
theorem dX6_feels_147 : decode cX6_feels 147 = .ok (.bipush (-9), 2) := by decide +kernel
theorem dX6_feels_149 : decode cX6_feels 149 = .ok (.goto 8, 3) := by decide +kernel
theorem dX6_feels_152 : decode cX6_feels 152 = .ok (.iload 6, 2) := by decide +kernel
theorem dX6_feels_154 : decode cX6_feels 154 = .ok (.iload 5, 2) := by decide +kernel
theorem dX6_feels_156 : decode cX6_feels 156 = .ok (.iadd, 1) := by decide +kernel
theorem dX6_feels_157 : decode cX6_feels 157 = .ok (.ireturn, 1) := by decide +kernel
theorem dX6_feels_158 : decode cX6_feels 158 = .ok (.iload_n 2, 1) := by decide +kernel
theorem dX6_feels_159 : decode cX6_feels 159 = .ok (.iload_n 3, 1) := by decide +kernel
theorem dX6_feels_160 : decode cX6_feels 160 = .ok (.iadd, 1) := by decide +kernel
theorem dX6_feels_161 : decode cX6_feels 161 = .ok (.iload 4, 2) := by decide +kernel
theorem dX6_feels_163 : decode cX6_feels 163 = .ok (.iadd, 1) := by decide +kernel
theorem dX6_feels_164 : decode cX6_feels 164 = .ok (.ifCond .ne 7, 3) := by decide +kernel
theorem dX6_feels_167 : decode cX6_feels 167 = .ok (.iconst 1, 1) := by decide +kernel
theorem dX6_feels_168 : decode cX6_feels 168 = .ok (.goto 8, 3) := by decide +kernel
theorem dX6_feels_171 : decode cX6_feels 171 = .ok (.bipush (-2), 2) := by decide +kernel
theorem dX6_feels_173 : decode cX6_feels 173 = .ok (.iload 5, 2) := by decide +kernel
theorem dX6_feels_175 : decode cX6_feels 175 = .ok (.imul, 1) := by decide +kernel
theorem dX6_feels_176 : decode cX6_feels 176 = .ok (.ireturn, 1) := by decide +kernel
theorem dX6_feels_177 : decode cX6_feels 177 = .ok (.iload 6, 2) := by decide +kernel
theorem dX6_feels_179 : decode cX6_feels 179 = .ok (.ireturn, 1) := by decide +kernel
set_option maxRecDepth 20000 in
theorem ggX6_catchesOf_X6_laidAt : GoodIn wsX6_catchesOf wsX6_laidAt := goodIn_r _ [5, 6, 7, 8, 9, 10, 11, 12, 13, 14, 15, 16, 17, 18, 19, 20, 21, 22, 23, 24, 25, 26] (by decide +kernel) (by decide +kernel)
set_option maxRecDepth 20000 in
theorem gX6_catchesOf_X6_laidAt : GoodIn wsX6_catchesOf (wsV RX6 63 RX6 yX6_laidAt wsX6_laidAt) := goodIn_app (goodIn_of _ (by decide +kernel)) ggX6_catchesOf_X6_laidAt
theorem dX6_catchesOf_0 : decode cX6_catchesOf 0 = .ok (.aload_n 0, 1) := by decide +kernel
theorem dX6_catchesOf_1 : decode cX6_catchesOf 1 = .ok (.iload_n 2, 1) := by decide +kernel
theorem dX6_catchesOf_2 : decode cX6_catchesOf 2 = .ok (.iconst 0, 1) := by decide +kernel
theorem dX6_catchesOf_3 : decode cX6_catchesOf 3 = .ok (.invokevirtual 63, 3) := by decide +kernel
theorem dX6_catchesOf_6 : decode cX6_catchesOf 6 = .ok (.iconst 1, 1) := by decide +kernel
theorem dX6_catchesOf_7 : decode cX6_catchesOf 7 = .ok (.if_icmp .ne 7, 3) := by decide +kernel
theorem dX6_catchesOf_10 : decode cX6_catchesOf 10 = .ok (.iconst (-1), 1) := by decide +kernel
theorem dX6_catchesOf_11 : decode cX6_catchesOf 11 = .ok (.goto 4, 3) := by decide +kernel
theorem dX6_catchesOf_14 : decode cX6_catchesOf 14 = .ok (.iconst 0, 1) := by decide +kernel
theorem dX6_catchesOf_15 : decode cX6_catchesOf 15 = .ok (.istore_n 3, 1) := by decide +kernel
theorem dX6_catchesOf_16 : decode cX6_catchesOf 16 = .ok (.aload_n 0, 1) := by decide +kernel
theorem dX6_catchesOf_17 : decode cX6_catchesOf 17 = .ok (.iload_n 2, 1) := by decide +kernel
theorem dX6_catchesOf_18 : decode cX6_catchesOf 18 = .ok (.iconst 1, 1) := by decide +kernel
theorem dX6_catchesOf_19 : decode cX6_catchesOf 19 = .ok (.invokevirtual 63, 3) := by decide +kernel
theorem dX6_catchesOf_22 : decode cX6_catchesOf 22 = .ok (.ifCond .ne 9, 3) := by decide +kernel
theorem dX6_catchesOf_25 : decode cX6_catchesOf 25 = .ok (.iload_n 3, 1) := by decide +kernel
theorem dX6_catchesOf_26 : decode cX6_catchesOf 26 = .ok (.iconst 1, 1) := by decide +kernel
theorem dX6_catchesOf_27 : decode cX6_catchesOf 27 = .ok (.iadd, 1) := by decide +kernel
theorem dX6_catchesOf_28 : decode cX6_catchesOf 28 = .ok (.goto 4, 3) := by decide +kernel
theorem dX6_catchesOf_31 : decode cX6_catchesOf 31 = .ok (.iload_n 3, 1) := by decide +kernel
