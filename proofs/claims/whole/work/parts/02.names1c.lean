theorem inX0 : ∀ w ∈ wsX00, w ∈ lw_tbl := by decide +kernel
theorem inX1 : ∀ w ∈ wsX10, w ∈ lw_tbl := by decide +kernel
theorem inlX2 : ∀ w ∈ wsX20, w ∈ wsL_law := fun _ h => List.mem_append_left _ (List.mem_append_right _ h)
theorem inX2 : ∀ w ∈ wsX20, w ∈ lw_tbl := fun w h => wsL_law_in w (inlX2 w h)
theorem inlX3 : ∀ w ∈ wsX30, w ∈ wsL_law := fun _ h => List.mem_append_left _ (List.mem_append_left _ (List.mem_append_left _ (List.mem_append_right _ h)))
theorem inX3 : ∀ w ∈ wsX30, w ∈ lw_tbl := fun w h => wsL_law_in w (inlX3 w h)
theorem inlX4 : ∀ w ∈ wsX40, w ∈ wsL_law := fun _ h => List.mem_append_left _ (List.mem_append_left _ (List.mem_append_right _ h))
theorem inX4 : ∀ w ∈ wsX40, w ∈ lw_tbl := fun w h => wsL_law_in w (inlX4 w h)
theorem inlX5 : ∀ w ∈ wsX50, w ∈ wsL_law := fun _ h => List.mem_append_left _ (List.mem_append_left _ (List.mem_append_left _ (List.mem_append_left _ (List.mem_append_left _ (List.mem_append_right _ h)))))
theorem inX5 : ∀ w ∈ wsX50, w ∈ lw_tbl := fun w h => wsL_law_in w (inlX5 w h)
theorem inlX6 : ∀ w ∈ wsX60, w ∈ wsL_law := fun _ h => List.mem_append_left _ (List.mem_append_left _ (List.mem_append_left _ (List.mem_append_left _ (List.mem_append_right _ h))))
theorem inX6 : ∀ w ∈ wsX60, w ∈ lw_tbl := fun w h => wsL_law_in w (inlX6 w h)
theorem inJx145de : ∀ w ∈ wsJx145de0, w ∈ lw_tbl := by decide +kernel
theorem inJx9f9b0 : ∀ w ∈ wsJx9f9b00, w ∈ lw_tbl := by decide +kernel
theorem inJxb160c : ∀ w ∈ wsJxb160c0, w ∈ lw_tbl := by decide +kernel
theorem inJ6 : ∀ w ∈ wsJ60, w ∈ lw_tbl := by decide +kernel
theorem inJ9 : ∀ w ∈ wsJ90, w ∈ lw_tbl := by decide +kernel
theorem inJ0 : ∀ w ∈ wsJ00, w ∈ lw_tbl := by decide +kernel
theorem inJ1 : ∀ w ∈ wsJ10, w ∈ lw_tbl := by decide +kernel
theorem inJ2 : ∀ w ∈ wsJ20, w ∈ lw_tbl := by decide +kernel
theorem inJ10 : ∀ w ∈ wsJ100, w ∈ lw_tbl := by decide +kernel
theorem inJxfd54e : ∀ w ∈ wsJxfd54e0, w ∈ lw_tbl := by decide +kernel
theorem inJx3cf43 : ∀ w ∈ wsJx3cf430, w ∈ lw_tbl := by decide +kernel
theorem inJ7 : ∀ w ∈ wsJ70, w ∈ lw_tbl := by decide +kernel
theorem inJ3 : ∀ w ∈ wsJ30, w ∈ lw_tbl := by decide +kernel
set_option maxRecDepth 20000 in
theorem ggX0_tell_X4_rewind : GoodIn wsX0_tell wsX4_rewind := goodIn_r _ [7, 8, 9, 10, 11, 130, 131, 132, 133, 134, 135] (by decide +kernel) (by decide +kernel)
set_option maxRecDepth 20000 in
theorem gX0_tell_X4_rewind : GoodIn wsX0_tell (wsV RX0 9 RX4 yX4_rewind wsX4_rewind) := goodIn_app (goodIn_of _ (by decide +kernel)) ggX0_tell_X4_rewind
set_option maxRecDepth 20000 in
theorem ggX0_tell_X4_next : GoodIn wsX0_tell wsX4_next := goodIn_r _ [15, 10, 9, 16, 17, 11, 8, 18, 19, 20, 21, 22, 23, 6, 24, 130, 131, 132, 133, 134, 135] (by decide +kernel) (by decide +kernel)
set_option maxRecDepth 20000 in
theorem gX0_tell_X4_next : GoodIn wsX0_tell (wsV RX0 14 RX4 yX4_next wsX4_next) := goodIn_app (goodIn_of _ (by decide +kernel)) ggX0_tell_X4_next
set_option maxRecDepth 20000 in
theorem ggX0_tell_X0_tellItem : GoodIn wsX0_tell wsX0_tellItem := goodIn_r _ [28, 29, 30, 31, 32, 6, 33, 8, 10, 9, 17, 34, 35, 36, 37, 38, 39, 40, 41, 42, 43, 44, 45, 46, 47, 48, 49, 50, 51, 52, 53, 54, 55, 56, 57, 58, 59, 60, 61, 62, 63, 64, 65, 66, 67, 68, 69, 70, 71, 72, 73, 74, 75, 76, 77, 78, 79, 80, 81, 82, 83, 84, 27, 85, 86, 12, 13, 14, 15, 16, 11, 18, 19, 20, 21, 22, 23, 24, 87, 88, 89, 90, 91, 92, 93, 94, 95, 96, 97, 98, 99, 100, 101, 102, 103, 104, 105, 106, 107, 108, 109, 110, 111, 112, 113, 114, 115, 116, 117, 118, 119, 120, 121, 122, 123, 124, 125, 126, 127, 128, 129, 136, 137, 138, 139, 140, 141, 142, 143, 144, 145, 146, 147, 148, 130, 131, 132, 133, 134, 135] (by decide +kernel) (by decide +kernel)
set_option maxRecDepth 20000 in
theorem gX0_tell_X0_tellItem : GoodIn wsX0_tell (va_wsS RX0 17 yX0_tellItem wsX0_tellItem) := goodIn_app (goodIn_of _ (by decide +kernel)) ggX0_tell_X0_tellItem
theorem dX0_tell_0 : decode cX0_tell 0 = .ok (.aload_n 0, 1) := by decide +kernel
theorem dX0_tell_1 : decode cX0_tell 1 = .ok (.invokevirtual 9, 3) := by decide +kernel
theorem dX0_tell_4 : decode cX0_tell 4 = .ok (.iconst 1, 1) := by decide +kernel
theorem dX0_tell_5 : decode cX0_tell 5 = .ok (.istore_n 2, 1) := by decide +kernel
theorem dX0_tell_6 : decode cX0_tell 6 = .ok (.iload_n 2, 1) := by decide +kernel
theorem dX0_tell_7 : decode cX0_tell 7 = .ok (.bipush 120, 2) := by decide +kernel
theorem dX0_tell_9 : decode cX0_tell 9 = .ok (.if_icmp .gt 44, 3) := by decide +kernel
theorem dX0_tell_12 : decode cX0_tell 12 = .ok (.aload_n 0, 1) := by decide +kernel
theorem dX0_tell_13 : decode cX0_tell 13 = .ok (.invokevirtual 14, 3) := by decide +kernel
theorem dX0_tell_16 : decode cX0_tell 16 = .ok (.aload_n 0, 1) := by decide +kernel
theorem dX0_tell_17 : decode cX0_tell 17 = .ok (.aload_n 1, 1) := by decide +kernel
theorem dX0_tell_18 : decode cX0_tell 18 = .ok (.invokestatic 17, 3) := by decide +kernel
theorem dX0_tell_21 : decode cX0_tell 21 = .ok (.ifCond .ne 6, 3) := by decide +kernel
theorem dX0_tell_24 : decode cX0_tell 24 = .ok (.goto 29, 3) := by decide +kernel
theorem dX0_tell_27 : decode cX0_tell 27 = .ok (.aload_n 0, 1) := by decide +kernel
theorem dX0_tell_28 : decode cX0_tell 28 = .ok (.getfield 23, 3) := by decide +kernel
theorem dX0_tell_31 : decode cX0_tell 31 = .ok (.ifCond .ne 5, 3) := by decide +kernel
theorem dX0_tell_34 : decode cX0_tell 34 = .ok (.iload_n 2, 1) := by decide +kernel
theorem dX0_tell_35 : decode cX0_tell 35 = .ok (.ireturn, 1) := by decide +kernel
theorem dX0_tell_36 : decode cX0_tell 36 = .ok (.aload_n 0, 1) := by decide +kernel
theorem dX0_tell_37 : decode cX0_tell 37 = .ok (.getfield 23, 3) := by decide +kernel
theorem dX0_tell_40 : decode cX0_tell 40 = .ok (.iconst 3, 1) := by decide +kernel
theorem dX0_tell_41 : decode cX0_tell 41 = .ok (.if_icmp .eq 6, 3) := by decide +kernel
theorem dX0_tell_44 : decode cX0_tell 44 = .ok (.goto 9, 3) := by decide +kernel
theorem dX0_tell_47 : decode cX0_tell 47 = .ok (.iinc 2 1, 3) := by decide +kernel
theorem dX0_tell_50 : decode cX0_tell 50 = .ok (.goto (-44), 3) := by decide +kernel
theorem dX0_tell_53 : decode cX0_tell 53 = .ok (.iconst (-1), 1) := by decide +kernel
theorem dX0_tell_54 : decode cX0_tell 54 = .ok (.aload_n 0, 1) := by decide +kernel
theorem dX0_tell_55 : decode cX0_tell 55 = .ok (.getfield 27, 3) := by decide +kernel
theorem dX0_tell_58 : decode cX0_tell 58 = .ok (.isub, 1) := by decide +kernel
theorem dX0_tell_59 : decode cX0_tell 59 = .ok (.ireturn, 1) := by decide +kernel
set_option maxRecDepth 20000 in
theorem ggX0_tellItem_X4_isWord : GoodIn wsX0_tellItem wsX4_isWord := goodIn_r _ [6, 7, 8, 9, 10, 11, 12, 13, 14, 15, 16, 17, 18, 19, 20, 21, 22, 23, 24, 25, 26, 27, 28, 29, 30, 31, 32, 33, 34, 35, 36, 37, 38, 39, 40, 41, 42, 43, 44, 45, 46, 47, 48, 49, 50, 51, 52, 53, 54, 55, 56, 57, 58, 59, 134, 135, 136, 137, 138, 139] (by decide +kernel) (by decide +kernel)
set_option maxRecDepth 20000 in
theorem gX0_tellItem_X4_isWord : GoodIn wsX0_tellItem (wsV RX0 32 RX4 yX4_isWord wsX4_isWord) := goodIn_app (goodIn_of _ (by decide +kernel)) ggX0_tellItem_X4_isWord
set_option maxRecDepth 20000 in
theorem ggX0_tellItem_X0_tellLaying : GoodIn wsX0_tellItem wsX0_tellLaying := goodIn_r _ [63, 64, 65, 66, 67, 5, 68, 8, 9, 69, 10, 70, 7, 71, 72, 73, 74, 75, 76, 77, 78, 79, 80, 81, 82, 83, 62, 84, 2, 3, 4, 6, 11, 12, 13, 14, 15, 16, 17, 18, 19, 20, 21, 22, 23, 24, 25, 26, 27, 28, 29, 30, 31, 32, 33, 34, 35, 36, 37, 38, 39, 40, 41, 42, 43, 44, 45, 46, 47, 48, 49, 50, 51, 52, 53, 54, 55, 56, 57, 58, 59, 85, 86, 87, 88, 89, 90, 91, 92, 134, 135, 136, 137, 138, 139, 121, 122, 123, 124, 125, 126, 127, 128, 129, 130, 131, 132, 133] (by decide +kernel) (by decide +kernel)
set_option maxRecDepth 20000 in
theorem gX0_tellItem_X0_tellLaying : GoodIn wsX0_tellItem (va_wsS RX0 36 yX0_tellLaying wsX0_tellLaying) := goodIn_app (goodIn_of _ (by decide +kernel)) ggX0_tellItem_X0_tellLaying
set_option maxRecDepth 20000 in
theorem ggX0_tellItem_X0_tellChange : GoodIn wsX0_tellItem wsX0_tellChange := goodIn_r _ [95, 1, 64, 65, 66, 67, 5, 68, 8, 9, 69, 10, 70, 7, 71, 72, 73, 74, 75, 76, 77, 78, 79, 80, 81, 96, 97, 98, 88, 99, 100, 101, 121, 122, 123, 124, 125, 126, 127, 128, 129, 130, 131, 132, 133, 134, 135, 136, 137, 138, 139] (by decide +kernel) (by decide +kernel)
set_option maxRecDepth 20000 in
theorem gX0_tellItem_X0_tellChange : GoodIn wsX0_tellItem (va_wsS RX0 41 yX0_tellChange wsX0_tellChange) := goodIn_app (goodIn_of _ (by decide +kernel)) ggX0_tellItem_X0_tellChange
set_option maxRecDepth 20000 in
theorem ggX0_tellItem_X0_kindNamed : GoodIn wsX0_tellItem wsX0_kindNamed := goodIn_r _ [104, 105, 106, 62, 107, 2, 3, 4, 5, 6, 7, 8, 9, 10, 11, 12, 13, 14, 15, 16, 17, 18, 19, 20, 21, 22, 23, 24, 25, 26, 27, 28, 29, 30, 31, 32, 33, 34, 35, 36, 37, 38, 39, 40, 41, 42, 43, 44, 45, 46, 47, 48, 49, 50, 51, 52, 53, 54, 55, 56, 57, 58, 59, 134, 135, 136, 137, 138, 139] (by decide +kernel) (by decide +kernel)
set_option maxRecDepth 20000 in
theorem gX0_tellItem_X0_kindNamed : GoodIn wsX0_tellItem (va_wsS RX0 44 yX0_kindNamed wsX0_kindNamed) := goodIn_app (goodIn_of _ (by decide +kernel)) ggX0_tellItem_X0_kindNamed
set_option maxRecDepth 20000 in
theorem ggX0_tellItem_X0_tellGuest : GoodIn wsX0_tellItem wsX0_tellGuest := goodIn_r _ [110, 111, 64, 65, 66, 67, 5, 68, 8, 9, 69, 10, 70, 7, 71, 72, 73, 74, 75, 76, 77, 78, 79, 80, 81, 112, 113, 114, 88, 115, 116, 117, 100, 118, 119, 120, 101, 121, 122, 123, 124, 125, 126, 127, 128, 129, 130, 131, 132, 133, 134, 135, 136, 137, 138, 139] (by decide +kernel) (by decide +kernel)
set_option maxRecDepth 20000 in
theorem gX0_tellItem_X0_tellGuest : GoodIn wsX0_tellItem (va_wsS RX0 53 yX0_tellGuest wsX0_tellGuest) := goodIn_app (goodIn_of _ (by decide +kernel)) ggX0_tellItem_X0_tellGuest
theorem dX0_tellItem_0 : decode cX0_tellItem 0 = .ok (.aload_n 0, 1) := by decide +kernel
theorem dX0_tellItem_1 : decode cX0_tellItem 1 = .ok (.ldc 30, 2) := by decide +kernel
theorem dX0_tellItem_3 : decode cX0_tellItem 3 = .ok (.invokevirtual 32, 3) := by decide +kernel
theorem dX0_tellItem_6 : decode cX0_tellItem 6 = .ok (.ifCond .eq 9, 3) := by decide +kernel
theorem dX0_tellItem_9 : decode cX0_tellItem 9 = .ok (.aload_n 0, 1) := by decide +kernel
theorem dX0_tellItem_10 : decode cX0_tellItem 10 = .ok (.aload_n 1, 1) := by decide +kernel
theorem dX0_tellItem_11 : decode cX0_tellItem 11 = .ok (.invokestatic 36, 3) := by decide +kernel
theorem dX0_tellItem_14 : decode cX0_tellItem 14 = .ok (.ireturn, 1) := by decide +kernel
theorem dX0_tellItem_15 : decode cX0_tellItem 15 = .ok (.aload_n 0, 1) := by decide +kernel
theorem dX0_tellItem_16 : decode cX0_tellItem 16 = .ok (.ldc 39, 2) := by decide +kernel
theorem dX0_tellItem_18 : decode cX0_tellItem 18 = .ok (.invokevirtual 32, 3) := by decide +kernel
theorem dX0_tellItem_21 : decode cX0_tellItem 21 = .ok (.ifCond .eq 9, 3) := by decide +kernel
theorem dX0_tellItem_24 : decode cX0_tellItem 24 = .ok (.aload_n 0, 1) := by decide +kernel
theorem dX0_tellItem_25 : decode cX0_tellItem 25 = .ok (.aload_n 1, 1) := by decide +kernel
theorem dX0_tellItem_26 : decode cX0_tellItem 26 = .ok (.invokestatic 41, 3) := by decide +kernel
theorem dX0_tellItem_29 : decode cX0_tellItem 29 = .ok (.ireturn, 1) := by decide +kernel
theorem dX0_tellItem_30 : decode cX0_tellItem 30 = .ok (.aload_n 0, 1) := by decide +kernel
theorem dX0_tellItem_31 : decode cX0_tellItem 31 = .ok (.invokestatic 44, 3) := by decide +kernel
theorem dX0_tellItem_34 : decode cX0_tellItem 34 = .ok (.istore_n 2, 1) := by decide +kernel
theorem dX0_tellItem_35 : decode cX0_tellItem 35 = .ok (.iload_n 2, 1) := by decide +kernel
theorem dX0_tellItem_36 : decode cX0_tellItem 36 = .ok (.ifCond .lt 25, 3) := by decide +kernel
theorem dX0_tellItem_39 : decode cX0_tellItem 39 = .ok (.aload_n 1, 1) := by decide +kernel
theorem dX0_tellItem_40 : decode cX0_tellItem 40 = .ok (.getfield 48, 3) := by decide +kernel
theorem dX0_tellItem_43 : decode cX0_tellItem 43 = .ok (.bipush 8, 2) := by decide +kernel
theorem dX0_tellItem_45 : decode cX0_tellItem 45 = .ok (.if_icmp .ge 16, 3) := by decide +kernel
theorem dX0_tellItem_48 : decode cX0_tellItem 48 = .ok (.aload_n 0, 1) := by decide +kernel
theorem dX0_tellItem_49 : decode cX0_tellItem 49 = .ok (.aload_n 1, 1) := by decide +kernel
theorem dX0_tellItem_50 : decode cX0_tellItem 50 = .ok (.iload_n 2, 1) := by decide +kernel
theorem dX0_tellItem_51 : decode cX0_tellItem 51 = .ok (.invokestatic 53, 3) := by decide +kernel
theorem dX0_tellItem_54 : decode cX0_tellItem 54 = .ok (.ifCond .eq 7, 3) := by decide +kernel
theorem dX0_tellItem_57 : decode cX0_tellItem 57 = .ok (.iconst 1, 1) := by decide +kernel
theorem dX0_tellItem_58 : decode cX0_tellItem 58 = .ok (.goto 4, 3) := by decide +kernel
theorem dX0_tellItem_61 : decode cX0_tellItem 61 = .ok (.iconst 0, 1) := by decide +kernel
theorem dX0_tellItem_62 : decode cX0_tellItem 62 = .ok (.ireturn, 1) := by decide +kernel
set_option maxRecDepth 20000 in
theorem ggX0_kindNamed_X0_nameOf : GoodIn wsX0_kindNamed wsX0_nameOf := goodIn_r _ [4] (by decide +kernel) (by decide +kernel)
set_option maxRecDepth 20000 in
theorem gX0_kindNamed_X0_nameOf : GoodIn wsX0_kindNamed (va_wsS RX0 57 yX0_nameOf wsX0_nameOf) := goodIn_app (goodIn_of _ (by decide +kernel)) ggX0_kindNamed_X0_nameOf
set_option maxRecDepth 20000 in
theorem ggX0_kindNamed_X4_isWord : GoodIn wsX0_kindNamed wsX4_isWord := goodIn_r _ [9, 10, 11, 12, 13, 14, 15, 16, 17, 18, 19, 20, 21, 22, 23, 24, 25, 26, 27, 28, 29, 30, 31, 32, 33, 34, 35, 36, 37, 38, 39, 40, 41, 42, 43, 44, 45, 46, 47, 48, 49, 50, 51, 52, 53, 54, 55, 56, 57, 58, 59, 60, 61, 62, 63, 64, 65, 66, 67, 68] (by decide +kernel) (by decide +kernel)
set_option maxRecDepth 20000 in
theorem gX0_kindNamed_X4_isWord : GoodIn wsX0_kindNamed (wsV RX0 32 RX4 yX4_isWord wsX4_isWord) := goodIn_app (goodIn_of _ (by decide +kernel)) ggX0_kindNamed_X4_isWord
theorem dX0_kindNamed_0 : decode cX0_kindNamed 0 = .ok (.iconst 0, 1) := by decide +kernel
theorem dX0_kindNamed_1 : decode cX0_kindNamed 1 = .ok (.istore_n 1, 1) := by decide +kernel
theorem dX0_kindNamed_2 : decode cX0_kindNamed 2 = .ok (.iload_n 1, 1) := by decide +kernel
theorem dX0_kindNamed_3 : decode cX0_kindNamed 3 = .ok (.bipush 6, 2) := by decide +kernel
theorem dX0_kindNamed_5 : decode cX0_kindNamed 5 = .ok (.if_icmp .ge 22, 3) := by decide +kernel
theorem dX0_kindNamed_8 : decode cX0_kindNamed 8 = .ok (.aload_n 0, 1) := by decide +kernel
theorem dX0_kindNamed_9 : decode cX0_kindNamed 9 = .ok (.iload_n 1, 1) := by decide +kernel
theorem dX0_kindNamed_10 : decode cX0_kindNamed 10 = .ok (.invokestatic 57, 3) := by decide +kernel
theorem dX0_kindNamed_13 : decode cX0_kindNamed 13 = .ok (.invokevirtual 32, 3) := by decide +kernel
theorem dX0_kindNamed_16 : decode cX0_kindNamed 16 = .ok (.ifCond .eq 5, 3) := by decide +kernel
theorem dX0_kindNamed_19 : decode cX0_kindNamed 19 = .ok (.iload_n 1, 1) := by decide +kernel
theorem dX0_kindNamed_20 : decode cX0_kindNamed 20 = .ok (.ireturn, 1) := by decide +kernel
theorem dX0_kindNamed_21 : decode cX0_kindNamed 21 = .ok (.iinc 1 1, 3) := by decide +kernel
theorem dX0_kindNamed_24 : decode cX0_kindNamed 24 = .ok (.goto (-22), 3) := by decide +kernel
theorem dX0_kindNamed_27 : decode cX0_kindNamed 27 = .ok (.iconst (-1), 1) := by decide +kernel
theorem dX0_kindNamed_28 : decode cX0_kindNamed 28 = .ok (.ireturn, 1) := by decide +kernel
theorem dX0_nameOf_0 : decode cX0_nameOf 0 = .ok (.iload_n 0, 1) := by decide +kernel
theorem dX0_nameOf_1 : decode cX0_nameOf 1 = .ok (.tableswitch 50 1 5 #[35, 38, 41, 44, 47], 35) := by decide +kernel
theorem dX0_nameOf_36 : decode cX0_nameOf 36 = .ok (.ldc 61, 2) := by decide +kernel
theorem dX0_nameOf_38 : decode cX0_nameOf 38 = .ok (.areturn, 1) := by decide +kernel
theorem dX0_nameOf_39 : decode cX0_nameOf 39 = .ok (.ldc 63, 2) := by decide +kernel
theorem dX0_nameOf_41 : decode cX0_nameOf 41 = .ok (.areturn, 1) := by decide +kernel
theorem dX0_nameOf_42 : decode cX0_nameOf 42 = .ok (.ldc 65, 2) := by decide +kernel
theorem dX0_nameOf_44 : decode cX0_nameOf 44 = .ok (.areturn, 1) := by decide +kernel
theorem dX0_nameOf_45 : decode cX0_nameOf 45 = .ok (.ldc 67, 2) := by decide +kernel
theorem dX0_nameOf_47 : decode cX0_nameOf 47 = .ok (.areturn, 1) := by decide +kernel
theorem dX0_nameOf_48 : decode cX0_nameOf 48 = .ok (.ldc 69, 2) := by decide +kernel
theorem dX0_nameOf_50 : decode cX0_nameOf 50 = .ok (.areturn, 1) := by decide +kernel
theorem dX0_nameOf_51 : decode cX0_nameOf 51 = .ok (.ldc 71, 2) := by decide +kernel
theorem dX0_nameOf_53 : decode cX0_nameOf 53 = .ok (.areturn, 1) := by decide +kernel
set_option maxRecDepth 20000 in
theorem ggX0_tellGuest_X4_next : GoodIn wsX0_tellGuest wsX4_next := goodIn_r _ [7, 8, 9, 10, 11, 12, 13, 14, 15, 16, 17, 18, 19, 6, 20, 50, 51, 52, 53, 54, 55] (by decide +kernel) (by decide +kernel)
set_option maxRecDepth 20000 in
theorem gX0_tellGuest_X4_next : GoodIn wsX0_tellGuest (wsV RX0 14 RX4 yX4_next wsX4_next) := goodIn_app (goodIn_of _ (by decide +kernel)) ggX0_tellGuest_X4_next
set_option maxRecDepth 20000 in
theorem ggX0_tellGuest_X4_isNumberBelow : GoodIn wsX0_tellGuest wsX4_isNumberBelow := goodIn_r _ [24, 13, 12, 50, 51, 52, 53, 54, 55] (by decide +kernel) (by decide +kernel)
set_option maxRecDepth 20000 in
theorem gX0_tellGuest_X4_isNumberBelow : GoodIn wsX0_tellGuest (wsV RX0 73 RX4 yX4_isNumberBelow wsX4_isNumberBelow) := goodIn_app (goodIn_of _ (by decide +kernel)) ggX0_tellGuest_X4_isNumberBelow
set_option maxRecDepth 20000 in
theorem ggX0_tellGuest_X3_welcome : GoodIn wsX0_tellGuest wsX3_welcome := goodIn_r _ [29, 30, 31, 32, 33, 34, 35, 36, 37, 38, 39, 40, 41, 42, 43, 44, 45, 46, 47, 48, 49] (by decide +kernel) (by decide +kernel)
set_option maxRecDepth 20000 in
theorem gX0_tellGuest_X3_welcome : GoodIn wsX0_tellGuest (wsV RX0 84 RX3 yX3_welcome wsX3_welcome) := goodIn_app (goodIn_of _ (by decide +kernel)) ggX0_tellGuest_X3_welcome
theorem dX0_tellGuest_0 : decode cX0_tellGuest 0 = .ok (.aload_n 0, 1) := by decide +kernel
theorem dX0_tellGuest_1 : decode cX0_tellGuest 1 = .ok (.invokevirtual 14, 3) := by decide +kernel
theorem dX0_tellGuest_4 : decode cX0_tellGuest 4 = .ok (.aload_n 0, 1) := by decide +kernel
theorem dX0_tellGuest_5 : decode cX0_tellGuest 5 = .ok (.bipush 10, 2) := by decide +kernel
theorem dX0_tellGuest_7 : decode cX0_tellGuest 7 = .ok (.invokevirtual 73, 3) := by decide +kernel
theorem dX0_tellGuest_10 : decode cX0_tellGuest 10 = .ok (.ifCond .eq 16, 3) := by decide +kernel
theorem dX0_tellGuest_13 : decode cX0_tellGuest 13 = .ok (.aload_n 1, 1) := by decide +kernel
theorem dX0_tellGuest_14 : decode cX0_tellGuest 14 = .ok (.getfield 77, 3) := by decide +kernel
theorem dX0_tellGuest_17 : decode cX0_tellGuest 17 = .ok (.aload_n 0, 1) := by decide +kernel
theorem dX0_tellGuest_18 : decode cX0_tellGuest 18 = .ok (.getfield 81, 3) := by decide +kernel
theorem dX0_tellGuest_21 : decode cX0_tellGuest 21 = .ok (.iaload, 1) := by decide +kernel
theorem dX0_tellGuest_22 : decode cX0_tellGuest 22 = .ok (.iconst (-1), 1) := by decide +kernel
theorem dX0_tellGuest_23 : decode cX0_tellGuest 23 = .ok (.if_icmp .eq 5, 3) := by decide +kernel
theorem dX0_tellGuest_26 : decode cX0_tellGuest 26 = .ok (.iconst 0, 1) := by decide +kernel
theorem dX0_tellGuest_27 : decode cX0_tellGuest 27 = .ok (.ireturn, 1) := by decide +kernel
theorem dX0_tellGuest_28 : decode cX0_tellGuest 28 = .ok (.aload_n 1, 1) := by decide +kernel
theorem dX0_tellGuest_29 : decode cX0_tellGuest 29 = .ok (.iload_n 2, 1) := by decide +kernel
theorem dX0_tellGuest_30 : decode cX0_tellGuest 30 = .ok (.aload_n 0, 1) := by decide +kernel
theorem dX0_tellGuest_31 : decode cX0_tellGuest 31 = .ok (.getfield 81, 3) := by decide +kernel
theorem dX0_tellGuest_34 : decode cX0_tellGuest 34 = .ok (.invokevirtual 84, 3) := by decide +kernel
theorem dX0_tellGuest_37 : decode cX0_tellGuest 37 = .ok (.pop, 1) := by decide +kernel
theorem dX0_tellGuest_38 : decode cX0_tellGuest 38 = .ok (.aload_n 0, 1) := by decide +kernel
theorem dX0_tellGuest_39 : decode cX0_tellGuest 39 = .ok (.invokevirtual 14, 3) := by decide +kernel
theorem dX0_tellGuest_42 : decode cX0_tellGuest 42 = .ok (.iconst 1, 1) := by decide +kernel
theorem dX0_tellGuest_43 : decode cX0_tellGuest 43 = .ok (.ireturn, 1) := by decide +kernel
set_option maxRecDepth 20000 in
theorem ggX0_tellLaying_X4_next : GoodIn wsX0_tellLaying wsX4_next := goodIn_r _ [6, 7, 8, 9, 10, 11, 12, 13, 14, 15, 16, 17, 18, 5, 19, 89, 90, 91, 92, 93, 94] (by decide +kernel) (by decide +kernel)
set_option maxRecDepth 20000 in
theorem gX0_tellLaying_X4_next : GoodIn wsX0_tellLaying (wsV RX0 14 RX4 yX4_next wsX4_next) := goodIn_app (goodIn_of _ (by decide +kernel)) ggX0_tellLaying_X4_next
set_option maxRecDepth 20000 in
theorem ggX0_tellLaying_X4_isNumberBelow : GoodIn wsX0_tellLaying wsX4_isNumberBelow := goodIn_r _ [23, 12, 11, 89, 90, 91, 92, 93, 94] (by decide +kernel) (by decide +kernel)
set_option maxRecDepth 20000 in
theorem gX0_tellLaying_X4_isNumberBelow : GoodIn wsX0_tellLaying (wsV RX0 73 RX4 yX4_isNumberBelow wsX4_isNumberBelow) := goodIn_app (goodIn_of _ (by decide +kernel)) ggX0_tellLaying_X4_isNumberBelow
set_option maxRecDepth 20000 in
theorem ggX0_tellLaying_X0_tellPerhaps : GoodIn wsX0_tellLaying wsX0_tellPerhaps := goodIn_r _ [27, 28, 29, 30, 5, 31, 12, 7, 8, 10, 32, 33, 34, 35, 36, 37, 38, 39, 40, 41, 42, 43, 44, 45, 46, 47, 48, 49, 50, 51, 52, 53, 54, 55, 56, 57, 58, 59, 60, 61, 62, 63, 64, 65, 66, 67, 68, 69, 70, 71, 72, 73, 74, 75, 76, 77, 78, 79, 80, 2, 3, 4, 6, 9, 11, 13, 14, 15, 16, 17, 18, 19, 89, 90, 91, 92, 93, 94] (by decide +kernel) (by decide +kernel)
set_option maxRecDepth 20000 in
theorem gX0_tellLaying_X0_tellPerhaps : GoodIn wsX0_tellLaying (va_wsS RX0 90 yX0_tellPerhaps wsX0_tellPerhaps) := goodIn_app (goodIn_of _ (by decide +kernel)) ggX0_tellLaying_X0_tellPerhaps
set_option maxRecDepth 20000 in
theorem ggX0_tellLaying_X3_layJustSo : GoodIn wsX0_tellLaying wsX3_layJustSo := goodIn_r _ [85, 86, 87, 88, 95, 96, 97, 98, 99, 100, 101, 102, 103, 104, 105, 106, 107] (by decide +kernel) (by decide +kernel)
set_option maxRecDepth 20000 in
theorem gX0_tellLaying_X3_layJustSo : GoodIn wsX0_tellLaying (wsV RX0 98 RX3 yX3_layJustSo wsX3_layJustSo) := goodIn_app (goodIn_of _ (by decide +kernel)) ggX0_tellLaying_X3_layJustSo
theorem dX0_tellLaying_0 : decode cX0_tellLaying 0 = .ok (.aload_n 0, 1) := by decide +kernel
theorem dX0_tellLaying_1 : decode cX0_tellLaying 1 = .ok (.invokevirtual 14, 3) := by decide +kernel
theorem dX0_tellLaying_4 : decode cX0_tellLaying 4 = .ok (.aload_n 0, 1) := by decide +kernel
theorem dX0_tellLaying_5 : decode cX0_tellLaying 5 = .ok (.bipush 10, 2) := by decide +kernel
theorem dX0_tellLaying_7 : decode cX0_tellLaying 7 = .ok (.invokevirtual 73, 3) := by decide +kernel
theorem dX0_tellLaying_10 : decode cX0_tellLaying 10 = .ok (.ifCond .ne 5, 3) := by decide +kernel
theorem dX0_tellLaying_13 : decode cX0_tellLaying 13 = .ok (.iconst 0, 1) := by decide +kernel
theorem dX0_tellLaying_14 : decode cX0_tellLaying 14 = .ok (.ireturn, 1) := by decide +kernel
theorem dX0_tellLaying_15 : decode cX0_tellLaying 15 = .ok (.aload_n 0, 1) := by decide +kernel
theorem dX0_tellLaying_16 : decode cX0_tellLaying 16 = .ok (.getfield 81, 3) := by decide +kernel
theorem dX0_tellLaying_19 : decode cX0_tellLaying 19 = .ok (.istore_n 2, 1) := by decide +kernel
theorem dX0_tellLaying_20 : decode cX0_tellLaying 20 = .ok (.aload_n 0, 1) := by decide +kernel
theorem dX0_tellLaying_21 : decode cX0_tellLaying 21 = .ok (.invokevirtual 14, 3) := by decide +kernel
theorem dX0_tellLaying_24 : decode cX0_tellLaying 24 = .ok (.aload_n 0, 1) := by decide +kernel
theorem dX0_tellLaying_25 : decode cX0_tellLaying 25 = .ok (.ldc 88, 2) := by decide +kernel
theorem dX0_tellLaying_27 : decode cX0_tellLaying 27 = .ok (.invokestatic 90, 3) := by decide +kernel
theorem dX0_tellLaying_30 : decode cX0_tellLaying 30 = .ok (.istore_n 3, 1) := by decide +kernel
theorem dX0_tellLaying_31 : decode cX0_tellLaying 31 = .ok (.aload_n 0, 1) := by decide +kernel
theorem dX0_tellLaying_32 : decode cX0_tellLaying 32 = .ok (.ldc 94, 2) := by decide +kernel
theorem dX0_tellLaying_34 : decode cX0_tellLaying 34 = .ok (.invokestatic 90, 3) := by decide +kernel
theorem dX0_tellLaying_37 : decode cX0_tellLaying 37 = .ok (.istore 4, 2) := by decide +kernel
theorem dX0_tellLaying_39 : decode cX0_tellLaying 39 = .ok (.iconst 0, 1) := by decide +kernel
theorem dX0_tellLaying_40 : decode cX0_tellLaying 40 = .ok (.istore 5, 2) := by decide +kernel
theorem dX0_tellLaying_42 : decode cX0_tellLaying 42 = .ok (.aload_n 0, 1) := by decide +kernel
theorem dX0_tellLaying_43 : decode cX0_tellLaying 43 = .ok (.ldc 96, 2) := by decide +kernel
theorem dX0_tellLaying_45 : decode cX0_tellLaying 45 = .ok (.invokestatic 90, 3) := by decide +kernel
theorem dX0_tellLaying_48 : decode cX0_tellLaying 48 = .ok (.iconst 1, 1) := by decide +kernel
theorem dX0_tellLaying_49 : decode cX0_tellLaying 49 = .ok (.if_icmp .ne 24, 3) := by decide +kernel
theorem dX0_tellLaying_52 : decode cX0_tellLaying 52 = .ok (.aload_n 0, 1) := by decide +kernel
theorem dX0_tellLaying_53 : decode cX0_tellLaying 53 = .ok (.bipush 10, 2) := by decide +kernel
theorem dX0_tellLaying_55 : decode cX0_tellLaying 55 = .ok (.invokevirtual 73, 3) := by decide +kernel
theorem dX0_tellLaying_58 : decode cX0_tellLaying 58 = .ok (.ifCond .ne 5, 3) := by decide +kernel
theorem dX0_tellLaying_61 : decode cX0_tellLaying 61 = .ok (.iconst 0, 1) := by decide +kernel
theorem dX0_tellLaying_62 : decode cX0_tellLaying 62 = .ok (.ireturn, 1) := by decide +kernel
theorem dX0_tellLaying_63 : decode cX0_tellLaying 63 = .ok (.aload_n 0, 1) := by decide +kernel
theorem dX0_tellLaying_64 : decode cX0_tellLaying 64 = .ok (.getfield 81, 3) := by decide +kernel
theorem dX0_tellLaying_67 : decode cX0_tellLaying 67 = .ok (.istore 5, 2) := by decide +kernel
theorem dX0_tellLaying_69 : decode cX0_tellLaying 69 = .ok (.aload_n 0, 1) := by decide +kernel
theorem dX0_tellLaying_70 : decode cX0_tellLaying 70 = .ok (.invokevirtual 14, 3) := by decide +kernel
theorem dX0_tellLaying_73 : decode cX0_tellLaying 73 = .ok (.aload_n 1, 1) := by decide +kernel
theorem dX0_tellLaying_74 : decode cX0_tellLaying 74 = .ok (.iload_n 2, 1) := by decide +kernel
theorem dX0_tellLaying_75 : decode cX0_tellLaying 75 = .ok (.iload_n 3, 1) := by decide +kernel
theorem dX0_tellLaying_76 : decode cX0_tellLaying 76 = .ok (.iload 4, 2) := by decide +kernel
theorem dX0_tellLaying_78 : decode cX0_tellLaying 78 = .ok (.iload 5, 2) := by decide +kernel
theorem dX0_tellLaying_80 : decode cX0_tellLaying 80 = .ok (.invokevirtual 98, 3) := by decide +kernel
theorem dX0_tellLaying_83 : decode cX0_tellLaying 83 = .ok (.iconst 1, 1) := by decide +kernel
theorem dX0_tellLaying_84 : decode cX0_tellLaying 84 = .ok (.ireturn, 1) := by decide +kernel
set_option maxRecDepth 20000 in
theorem ggX0_tellPerhaps_X4_isWord : GoodIn wsX0_tellPerhaps wsX4_isWord := goodIn_r _ [5, 6, 7, 8, 9, 10, 11, 12, 13, 14, 15, 16, 17, 18, 19, 20, 21, 22, 23, 24, 25, 26, 27, 28, 29, 30, 31, 32, 33, 34, 35, 36, 37, 38, 39, 40, 41, 42, 43, 44, 45, 46, 47, 48, 49, 50, 51, 52, 53, 54, 55, 56, 57, 58, 72, 73, 74, 75, 76, 77] (by decide +kernel) (by decide +kernel)
set_option maxRecDepth 20000 in
theorem gX0_tellPerhaps_X4_isWord : GoodIn wsX0_tellPerhaps (wsV RX0 32 RX4 yX4_isWord wsX4_isWord) := goodIn_app (goodIn_of _ (by decide +kernel)) ggX0_tellPerhaps_X4_isWord
set_option maxRecDepth 20000 in
theorem ggX0_tellPerhaps_X4_next : GoodIn wsX0_tellPerhaps wsX4_next := goodIn_r _ [62, 7, 8, 63, 9, 64, 6, 65, 66, 67, 68, 69, 70, 4, 71, 72, 73, 74, 75, 76, 77] (by decide +kernel) (by decide +kernel)
set_option maxRecDepth 20000 in
theorem gX0_tellPerhaps_X4_next : GoodIn wsX0_tellPerhaps (wsV RX0 14 RX4 yX4_next wsX4_next) := goodIn_app (goodIn_of _ (by decide +kernel)) ggX0_tellPerhaps_X4_next
theorem dX0_tellPerhaps_0 : decode cX0_tellPerhaps 0 = .ok (.aload_n 0, 1) := by decide +kernel
theorem dX0_tellPerhaps_1 : decode cX0_tellPerhaps 1 = .ok (.aload_n 1, 1) := by decide +kernel
theorem dX0_tellPerhaps_2 : decode cX0_tellPerhaps 2 = .ok (.invokevirtual 32, 3) := by decide +kernel
theorem dX0_tellPerhaps_5 : decode cX0_tellPerhaps 5 = .ok (.ifCond .ne 5, 3) := by decide +kernel
theorem dX0_tellPerhaps_8 : decode cX0_tellPerhaps 8 = .ok (.iconst 0, 1) := by decide +kernel
theorem dX0_tellPerhaps_9 : decode cX0_tellPerhaps 9 = .ok (.ireturn, 1) := by decide +kernel
theorem dX0_tellPerhaps_10 : decode cX0_tellPerhaps 10 = .ok (.aload_n 0, 1) := by decide +kernel
theorem dX0_tellPerhaps_11 : decode cX0_tellPerhaps 11 = .ok (.invokevirtual 14, 3) := by decide +kernel
theorem dX0_tellPerhaps_14 : decode cX0_tellPerhaps 14 = .ok (.iconst 1, 1) := by decide +kernel
theorem dX0_tellPerhaps_15 : decode cX0_tellPerhaps 15 = .ok (.ireturn, 1) := by decide +kernel
set_option maxRecDepth 20000 in
theorem ggX0_tellChange_X4_next : GoodIn wsX0_tellChange wsX4_next := goodIn_r _ [7, 8, 9, 10, 11, 12, 13, 14, 15, 16, 17, 18, 19, 6, 20, 45, 46, 47, 48, 49, 50] (by decide +kernel) (by decide +kernel)
set_option maxRecDepth 20000 in
theorem gX0_tellChange_X4_next : GoodIn wsX0_tellChange (wsV RX0 14 RX4 yX4_next wsX4_next) := goodIn_app (goodIn_of _ (by decide +kernel)) ggX0_tellChange_X4_next
set_option maxRecDepth 20000 in
theorem ggX0_tellChange_X4_isNumberBelow : GoodIn wsX0_tellChange wsX4_isNumberBelow := goodIn_r _ [24, 13, 12, 45, 46, 47, 48, 49, 50] (by decide +kernel) (by decide +kernel)
set_option maxRecDepth 20000 in
theorem gX0_tellChange_X4_isNumberBelow : GoodIn wsX0_tellChange (wsV RX0 73 RX4 yX4_isNumberBelow wsX4_isNumberBelow) := goodIn_app (goodIn_of _ (by decide +kernel)) ggX0_tellChange_X4_isNumberBelow
set_option maxRecDepth 20000 in
theorem ggX0_tellChange_X3_exchange : GoodIn wsX0_tellChange wsX3_exchange := goodIn_r _ [29, 30, 31, 32, 33, 34, 35, 36, 37, 38, 39, 40, 41, 42, 43, 44] (by decide +kernel) (by decide +kernel)
set_option maxRecDepth 20000 in
theorem gX0_tellChange_X3_exchange : GoodIn wsX0_tellChange (wsV RX0 102 RX3 yX3_exchange wsX3_exchange) := goodIn_app (goodIn_of _ (by decide +kernel)) ggX0_tellChange_X3_exchange
theorem dX0_tellChange_0 : decode cX0_tellChange 0 = .ok (.aload_n 0, 1) := by decide +kernel
theorem dX0_tellChange_1 : decode cX0_tellChange 1 = .ok (.invokevirtual 14, 3) := by decide +kernel
theorem dX0_tellChange_4 : decode cX0_tellChange 4 = .ok (.aload_n 0, 1) := by decide +kernel
theorem dX0_tellChange_5 : decode cX0_tellChange 5 = .ok (.aload_n 1, 1) := by decide +kernel
theorem dX0_tellChange_6 : decode cX0_tellChange 6 = .ok (.getfield 48, 3) := by decide +kernel
theorem dX0_tellChange_9 : decode cX0_tellChange 9 = .ok (.invokevirtual 73, 3) := by decide +kernel
theorem dX0_tellChange_12 : decode cX0_tellChange 12 = .ok (.ifCond .ne 5, 3) := by decide +kernel
theorem dX0_tellChange_15 : decode cX0_tellChange 15 = .ok (.iconst 0, 1) := by decide +kernel
theorem dX0_tellChange_16 : decode cX0_tellChange 16 = .ok (.ireturn, 1) := by decide +kernel
theorem dX0_tellChange_17 : decode cX0_tellChange 17 = .ok (.aload_n 0, 1) := by decide +kernel
theorem dX0_tellChange_18 : decode cX0_tellChange 18 = .ok (.getfield 81, 3) := by decide +kernel
theorem dX0_tellChange_21 : decode cX0_tellChange 21 = .ok (.istore_n 2, 1) := by decide +kernel
theorem dX0_tellChange_22 : decode cX0_tellChange 22 = .ok (.aload_n 0, 1) := by decide +kernel
theorem dX0_tellChange_23 : decode cX0_tellChange 23 = .ok (.invokevirtual 14, 3) := by decide +kernel
theorem dX0_tellChange_26 : decode cX0_tellChange 26 = .ok (.aload_n 0, 1) := by decide +kernel
theorem dX0_tellChange_27 : decode cX0_tellChange 27 = .ok (.aload_n 1, 1) := by decide +kernel
theorem dX0_tellChange_28 : decode cX0_tellChange 28 = .ok (.getfield 48, 3) := by decide +kernel
theorem dX0_tellChange_31 : decode cX0_tellChange 31 = .ok (.invokevirtual 73, 3) := by decide +kernel
theorem dX0_tellChange_34 : decode cX0_tellChange 34 = .ok (.ifCond .eq 11, 3) := by decide +kernel
theorem dX0_tellChange_37 : decode cX0_tellChange 37 = .ok (.aload_n 0, 1) := by decide +kernel
theorem dX0_tellChange_38 : decode cX0_tellChange 38 = .ok (.getfield 81, 3) := by decide +kernel
theorem dX0_tellChange_41 : decode cX0_tellChange 41 = .ok (.iload_n 2, 1) := by decide +kernel
theorem dX0_tellChange_42 : decode cX0_tellChange 42 = .ok (.if_icmp .ne 5, 3) := by decide +kernel
theorem dX0_tellChange_45 : decode cX0_tellChange 45 = .ok (.iconst 0, 1) := by decide +kernel
theorem dX0_tellChange_46 : decode cX0_tellChange 46 = .ok (.ireturn, 1) := by decide +kernel
theorem dX0_tellChange_47 : decode cX0_tellChange 47 = .ok (.aload_n 1, 1) := by decide +kernel
theorem dX0_tellChange_48 : decode cX0_tellChange 48 = .ok (.iload_n 2, 1) := by decide +kernel
theorem dX0_tellChange_49 : decode cX0_tellChange 49 = .ok (.aload_n 0, 1) := by decide +kernel
theorem dX0_tellChange_50 : decode cX0_tellChange 50 = .ok (.getfield 81, 3) := by decide +kernel
theorem dX0_tellChange_53 : decode cX0_tellChange 53 = .ok (.invokevirtual 102, 3) := by decide +kernel
theorem dX0_tellChange_56 : decode cX0_tellChange 56 = .ok (.aload_n 0, 1) := by decide +kernel
theorem dX0_tellChange_57 : decode cX0_tellChange 57 = .ok (.invokevirtual 14, 3) := by decide +kernel
theorem dX0_tellChange_60 : decode cX0_tellChange 60 = .ok (.iconst 1, 1) := by decide +kernel
theorem dX0_tellChange_61 : decode cX0_tellChange 61 = .ok (.ireturn, 1) := by decide +kernel
theorem dX1_above_0 : decode cX1_above 0 = .ok (.iload_n 0, 1) := by decide +kernel
theorem dX1_above_1 : decode cX1_above 1 = .ok (.tableswitch 41 1 5 #[35, 35, 35, 37, 39], 35) := by decide +kernel
theorem dX1_above_36 : decode cX1_above 36 = .ok (.iconst 0, 1) := by decide +kernel
theorem dX1_above_37 : decode cX1_above 37 = .ok (.ireturn, 1) := by decide +kernel
theorem dX1_above_38 : decode cX1_above 38 = .ok (.iconst 1, 1) := by decide +kernel
theorem dX1_above_39 : decode cX1_above 39 = .ok (.ireturn, 1) := by decide +kernel
theorem dX1_above_40 : decode cX1_above 40 = .ok (.iconst 2, 1) := by decide +kernel
theorem dX1_above_41 : decode cX1_above 41 = .ok (.ireturn, 1) := by decide +kernel
theorem dX1_above_42 : decode cX1_above 42 = .ok (.iconst (-1), 1) := by decide +kernel
theorem dX1_above_43 : decode cX1_above 43 = .ok (.ireturn, 1) := by decide +kernel
set_option maxRecDepth 20000 in
theorem ggX1_isUnder_X1_above : GoodIn wsX1_isUnder wsX1_above := goodIn_r _ [4] (by decide +kernel) (by decide +kernel)
set_option maxRecDepth 20000 in
theorem gX1_isUnder_X1_above : GoodIn wsX1_isUnder (va_wsS RX1 9 yX1_above wsX1_above) := goodIn_app (goodIn_of _ (by decide +kernel)) ggX1_isUnder_X1_above
theorem dX1_isUnder_0 : decode cX1_isUnder 0 = .ok (.iload_n 0, 1) := by decide +kernel
theorem dX1_isUnder_1 : decode cX1_isUnder 1 = .ok (.istore_n 2, 1) := by decide +kernel
theorem dX1_isUnder_2 : decode cX1_isUnder 2 = .ok (.iconst 0, 1) := by decide +kernel
theorem dX1_isUnder_3 : decode cX1_isUnder 3 = .ok (.istore_n 3, 1) := by decide +kernel
theorem dX1_isUnder_4 : decode cX1_isUnder 4 = .ok (.iload_n 3, 1) := by decide +kernel
theorem dX1_isUnder_5 : decode cX1_isUnder 5 = .ok (.bipush 6, 2) := by decide +kernel
theorem dX1_isUnder_7 : decode cX1_isUnder 7 = .ok (.if_icmp .ge 25, 3) := by decide +kernel
theorem dX1_isUnder_10 : decode cX1_isUnder 10 = .ok (.iload_n 2, 1) := by decide +kernel
theorem dX1_isUnder_11 : decode cX1_isUnder 11 = .ok (.ifCond .lt 21, 3) := by decide +kernel
theorem dX1_isUnder_14 : decode cX1_isUnder 14 = .ok (.iload_n 2, 1) := by decide +kernel
theorem dX1_isUnder_15 : decode cX1_isUnder 15 = .ok (.iload_n 1, 1) := by decide +kernel
theorem dX1_isUnder_16 : decode cX1_isUnder 16 = .ok (.if_icmp .ne 5, 3) := by decide +kernel
theorem dX1_isUnder_19 : decode cX1_isUnder 19 = .ok (.iconst 1, 1) := by decide +kernel
theorem dX1_isUnder_20 : decode cX1_isUnder 20 = .ok (.ireturn, 1) := by decide +kernel
theorem dX1_isUnder_21 : decode cX1_isUnder 21 = .ok (.iload_n 2, 1) := by decide +kernel
theorem dX1_isUnder_22 : decode cX1_isUnder 22 = .ok (.invokestatic 9, 3) := by decide +kernel
theorem dX1_isUnder_25 : decode cX1_isUnder 25 = .ok (.istore_n 2, 1) := by decide +kernel
theorem dX1_isUnder_26 : decode cX1_isUnder 26 = .ok (.iinc 3 1, 3) := by decide +kernel
theorem dX1_isUnder_29 : decode cX1_isUnder 29 = .ok (.goto (-25), 3) := by decide +kernel
theorem dX1_isUnder_32 : decode cX1_isUnder 32 = .ok (.iconst 0, 1) := by decide +kernel
theorem dX1_isUnder_33 : decode cX1_isUnder 33 = .ok (.ireturn, 1) := by decide +kernel
theorem dX1_feels_0 : decode cX1_feels 0 = .ok (.iload_n 1, 1) := by decide +kernel
theorem dX1_feels_1 : decode cX1_feels 1 = .ok (.ifCond .ne 7, 3) := by decide +kernel
theorem dX1_feels_4 : decode cX1_feels 4 = .ok (.iconst 2, 1) := by decide +kernel
theorem dX1_feels_5 : decode cX1_feels 5 = .ok (.goto 5, 3) := by decide +kernel
theorem dX1_feels_8 : decode cX1_feels 8 = .ok (.bipush (-3), 2) := by decide +kernel
theorem dX1_feels_10 : decode cX1_feels 10 = .ok (.iload_n 2, 1) := by decide +kernel
theorem dX1_feels_11 : decode cX1_feels 11 = .ok (.iconst 1, 1) := by decide +kernel
theorem dX1_feels_12 : decode cX1_feels 12 = .ok (.if_icmp .ne 8, 3) := by decide +kernel
theorem dX1_feels_15 : decode cX1_feels 15 = .ok (.bipush (-4), 2) := by decide +kernel
theorem dX1_feels_17 : decode cX1_feels 17 = .ok (.goto 4, 3) := by decide +kernel
theorem dX1_feels_20 : decode cX1_feels 20 = .ok (.iconst 0, 1) := by decide +kernel
theorem dX1_feels_21 : decode cX1_feels 21 = .ok (.iadd, 1) := by decide +kernel
theorem dX1_feels_22 : decode cX1_feels 22 = .ok (.istore 5, 2) := by decide +kernel
theorem dX1_feels_24 : decode cX1_feels 24 = .ok (.iload 5, 2) := by decide +kernel
theorem dX1_feels_26 : decode cX1_feels 26 = .ok (.iload_n 3, 1) := by decide +kernel
theorem dX1_feels_27 : decode cX1_feels 27 = .ok (.isub, 1) := by decide +kernel
theorem dX1_feels_28 : decode cX1_feels 28 = .ok (.istore 6, 2) := by decide +kernel
theorem dX1_feels_30 : decode cX1_feels 30 = .ok (.iload 5, 2) := by decide +kernel
theorem dX1_feels_32 : decode cX1_feels 32 = .ok (.iload 4, 2) := by decide +kernel
theorem dX1_feels_34 : decode cX1_feels 34 = .ok (.iadd, 1) := by decide +kernel
theorem dX1_feels_35 : decode cX1_feels 35 = .ok (.istore 7, 2) := by decide +kernel
theorem dX1_feels_37 : decode cX1_feels 37 = .ok (.iload_n 0, 1) := by decide +kernel
theorem dX1_feels_38 : decode cX1_feels 38 = .ok (.tableswitch 91 1 5 #[34, 37, 40, 62, 78], 34) := by decide +kernel
theorem dX1_feels_72 : decode cX1_feels 72 = .ok (.iload 6, 2) := by decide +kernel
theorem dX1_feels_74 : decode cX1_feels 74 = .ok (.ireturn, 1) := by decide +kernel
theorem dX1_feels_75 : decode cX1_feels 75 = .ok (.iload 7, 2) := by decide +kernel
theorem dX1_feels_77 : decode cX1_feels 77 = .ok (.ireturn, 1) := by decide +kernel
theorem dX1_feels_78 : decode cX1_feels 78 = .ok (.iload_n 1, 1) := by decide +kernel
theorem dX1_feels_79 : decode cX1_feels 79 = .ok (.ifCond .ne 15, 3) := by decide +kernel
theorem dX1_feels_82 : decode cX1_feels 82 = .ok (.iload_n 2, 1) := by decide +kernel
theorem dX1_feels_83 : decode cX1_feels 83 = .ok (.ifCond .ne 11, 3) := by decide +kernel
theorem dX1_feels_86 : decode cX1_feels 86 = .ok (.iload_n 3, 1) := by decide +kernel
theorem dX1_feels_87 : decode cX1_feels 87 = .ok (.ifCond .ne 7, 3) := by decide +kernel
theorem dX1_feels_90 : decode cX1_feels 90 = .ok (.iconst 1, 1) := by decide +kernel
theorem dX1_feels_91 : decode cX1_feels 91 = .ok (.goto 8, 3) := by decide +kernel
theorem dX1_feels_94 : decode cX1_feels 94 = .ok (.bipush (-2), 2) := by decide +kernel
theorem dX1_feels_96 : decode cX1_feels 96 = .ok (.iload 4, 2) := by decide +kernel
theorem dX1_feels_98 : decode cX1_feels 98 = .ok (.imul, 1) := by decide +kernel
theorem dX1_feels_99 : decode cX1_feels 99 = .ok (.ireturn, 1) := by decide +kernel
theorem dX1_feels_100 : decode cX1_feels 100 = .ok (.iload 4, 2) := by decide +kernel
theorem dX1_feels_102 : decode cX1_feels 102 = .ok (.iconst 2, 1) := by decide +kernel
theorem dX1_feels_103 : decode cX1_feels 103 = .ok (.if_icmp .ne 10, 3) := by decide +kernel
theorem dX1_feels_106 : decode cX1_feels 106 = .ok (.iconst 2, 1) := by decide +kernel
theorem dX1_feels_107 : decode cX1_feels 107 = .ok (.iload 6, 2) := by decide +kernel
theorem dX1_feels_109 : decode cX1_feels 109 = .ok (.imul, 1) := by decide +kernel
theorem dX1_feels_110 : decode cX1_feels 110 = .ok (.goto 5, 3) := by decide +kernel
theorem dX1_feels_113 : decode cX1_feels 113 = .ok (.iload 6, 2) := by decide +kernel
theorem dX1_feels_115 : decode cX1_feels 115 = .ok (.ireturn, 1) := by decide +kernel
theorem dX1_feels_116 : decode cX1_feels 116 = .ok (.iload_n 2, 1) := by decide +kernel
theorem dX1_feels_117 : decode cX1_feels 117 = .ok (.iconst 1, 1) := by decide +kernel
theorem dX1_feels_118 : decode cX1_feels 118 = .ok (.if_icmp .ne 8, 3) := by decide +kernel
theorem dX1_feels_121 : decode cX1_feels 121 = .ok (.bipush (-9), 2) := by decide +kernel
theorem dX1_feels_123 : decode cX1_feels 123 = .ok (.goto 5, 3) := by decide +kernel
theorem dX1_feels_126 : decode cX1_feels 126 = .ok (.iload 7, 2) := by decide +kernel
theorem dX1_feels_128 : decode cX1_feels 128 = .ok (.ireturn, 1) := by decide +kernel
theorem dX1_feels_129 : decode cX1_feels 129 = .ok (.iload 5, 2) := by decide +kernel
theorem dX1_feels_131 : decode cX1_feels 131 = .ok (.ireturn, 1) := by decide +kernel
theorem dX1_catches_0 : decode cX1_catches 0 = .ok (.iload_n 1, 1) := by decide +kernel
theorem dX1_catches_1 : decode cX1_catches 1 = .ok (.iconst 1, 1) := by decide +kernel
theorem dX1_catches_2 : decode cX1_catches 2 = .ok (.if_icmp .ne 7, 3) := by decide +kernel
theorem dX1_catches_5 : decode cX1_catches 5 = .ok (.iconst (-1), 1) := by decide +kernel
theorem dX1_catches_6 : decode cX1_catches 6 = .ok (.goto 4, 3) := by decide +kernel
theorem dX1_catches_9 : decode cX1_catches 9 = .ok (.iconst 0, 1) := by decide +kernel
theorem dX1_catches_10 : decode cX1_catches 10 = .ok (.istore_n 3, 1) := by decide +kernel
theorem dX1_catches_11 : decode cX1_catches 11 = .ok (.iload_n 3, 1) := by decide +kernel
theorem dX1_catches_12 : decode cX1_catches 12 = .ok (.iload_n 2, 1) := by decide +kernel
theorem dX1_catches_13 : decode cX1_catches 13 = .ok (.ifCond .ne 7, 3) := by decide +kernel
theorem dX1_catches_16 : decode cX1_catches 16 = .ok (.iconst 1, 1) := by decide +kernel
theorem dX1_catches_17 : decode cX1_catches 17 = .ok (.goto 4, 3) := by decide +kernel
theorem dX1_catches_20 : decode cX1_catches 20 = .ok (.iconst 0, 1) := by decide +kernel
theorem dX1_catches_21 : decode cX1_catches 21 = .ok (.iadd, 1) := by decide +kernel
theorem dX1_catches_22 : decode cX1_catches 22 = .ok (.istore 4, 2) := by decide +kernel
theorem dX1_catches_24 : decode cX1_catches 24 = .ok (.iload_n 0, 1) := by decide +kernel
theorem dX1_catches_25 : decode cX1_catches 25 = .ok (.tableswitch 57 1 5 #[35, 37, 40, 35, 52], 35) := by decide +kernel
theorem dX1_catches_60 : decode cX1_catches 60 = .ok (.iconst 0, 1) := by decide +kernel
theorem dX1_catches_61 : decode cX1_catches 61 = .ok (.ireturn, 1) := by decide +kernel
theorem dX1_catches_62 : decode cX1_catches 62 = .ok (.iload 4, 2) := by decide +kernel
theorem dX1_catches_64 : decode cX1_catches 64 = .ok (.ireturn, 1) := by decide +kernel
theorem dX1_catches_65 : decode cX1_catches 65 = .ok (.iload_n 2, 1) := by decide +kernel
theorem dX1_catches_66 : decode cX1_catches 66 = .ok (.iconst 1, 1) := by decide +kernel
theorem dX1_catches_67 : decode cX1_catches 67 = .ok (.if_icmp .ne 8, 3) := by decide +kernel
theorem dX1_catches_70 : decode cX1_catches 70 = .ok (.bipush (-3), 2) := by decide +kernel
theorem dX1_catches_72 : decode cX1_catches 72 = .ok (.goto 4, 3) := by decide +kernel
theorem dX1_catches_75 : decode cX1_catches 75 = .ok (.iconst 0, 1) := by decide +kernel
theorem dX1_catches_76 : decode cX1_catches 76 = .ok (.ireturn, 1) := by decide +kernel
theorem dX1_catches_77 : decode cX1_catches 77 = .ok (.iconst 2, 1) := by decide +kernel
theorem dX1_catches_78 : decode cX1_catches 78 = .ok (.iload 4, 2) := by decide +kernel
theorem dX1_catches_80 : decode cX1_catches 80 = .ok (.imul, 1) := by decide +kernel
theorem dX1_catches_81 : decode cX1_catches 81 = .ok (.ireturn, 1) := by decide +kernel
theorem dX1_catches_82 : decode cX1_catches 82 = .ok (.iload_n 3, 1) := by decide +kernel
theorem dX1_catches_83 : decode cX1_catches 83 = .ok (.ireturn, 1) := by decide +kernel
theorem dX1_tellsAt_0 : decode cX1_tellsAt 0 = .ok (.iload_n 0, 1) := by decide +kernel
theorem dX1_tellsAt_1 : decode cX1_tellsAt 1 = .ok (.tableswitch 72 1 5 #[35, 72, 45, 47, 61], 35) := by decide +kernel
theorem dX1_tellsAt_36 : decode cX1_tellsAt 36 = .ok (.iload_n 1, 1) := by decide +kernel
theorem dX1_tellsAt_37 : decode cX1_tellsAt 37 = .ok (.ifCond .le 7, 3) := by decide +kernel
theorem dX1_tellsAt_40 : decode cX1_tellsAt 40 = .ok (.iconst 1, 1) := by decide +kernel
theorem dX1_tellsAt_41 : decode cX1_tellsAt 41 = .ok (.goto 4, 3) := by decide +kernel
theorem dX1_tellsAt_44 : decode cX1_tellsAt 44 = .ok (.iconst 0, 1) := by decide +kernel
theorem dX1_tellsAt_45 : decode cX1_tellsAt 45 = .ok (.ireturn, 1) := by decide +kernel
theorem dX1_tellsAt_46 : decode cX1_tellsAt 46 = .ok (.iconst 0, 1) := by decide +kernel
theorem dX1_tellsAt_47 : decode cX1_tellsAt 47 = .ok (.ireturn, 1) := by decide +kernel
theorem dX1_tellsAt_48 : decode cX1_tellsAt 48 = .ok (.iload_n 1, 1) := by decide +kernel
theorem dX1_tellsAt_49 : decode cX1_tellsAt 49 = .ok (.ifCond .le 11, 3) := by decide +kernel
theorem dX1_tellsAt_52 : decode cX1_tellsAt 52 = .ok (.iload_n 2, 1) := by decide +kernel
theorem dX1_tellsAt_53 : decode cX1_tellsAt 53 = .ok (.ifCond .ge 7, 3) := by decide +kernel
theorem dX1_tellsAt_56 : decode cX1_tellsAt 56 = .ok (.iconst 1, 1) := by decide +kernel
theorem dX1_tellsAt_57 : decode cX1_tellsAt 57 = .ok (.goto 4, 3) := by decide +kernel
theorem dX1_tellsAt_60 : decode cX1_tellsAt 60 = .ok (.iconst 0, 1) := by decide +kernel
theorem dX1_tellsAt_61 : decode cX1_tellsAt 61 = .ok (.ireturn, 1) := by decide +kernel
theorem dX1_tellsAt_62 : decode cX1_tellsAt 62 = .ok (.iload_n 2, 1) := by decide +kernel
theorem dX1_tellsAt_63 : decode cX1_tellsAt 63 = .ok (.iconst 5, 1) := by decide +kernel
theorem dX1_tellsAt_64 : decode cX1_tellsAt 64 = .ok (.if_icmp .lt 7, 3) := by decide +kernel
theorem dX1_tellsAt_67 : decode cX1_tellsAt 67 = .ok (.iconst 1, 1) := by decide +kernel
theorem dX1_tellsAt_68 : decode cX1_tellsAt 68 = .ok (.goto 4, 3) := by decide +kernel
theorem dX1_tellsAt_71 : decode cX1_tellsAt 71 = .ok (.iconst 0, 1) := by decide +kernel
theorem dX1_tellsAt_72 : decode cX1_tellsAt 72 = .ok (.ireturn, 1) := by decide +kernel
theorem dX1_tellsAt_73 : decode cX1_tellsAt 73 = .ok (.iload_n 2, 1) := by decide +kernel
theorem dX1_tellsAt_74 : decode cX1_tellsAt 74 = .ok (.bipush 20, 2) := by decide +kernel
theorem dX1_tellsAt_76 : decode cX1_tellsAt 76 = .ok (.if_icmp .lt 7, 3) := by decide +kernel
theorem dX1_tellsAt_79 : decode cX1_tellsAt 79 = .ok (.iconst 1, 1) := by decide +kernel
theorem dX1_tellsAt_80 : decode cX1_tellsAt 80 = .ok (.goto 4, 3) := by decide +kernel
theorem dX1_tellsAt_83 : decode cX1_tellsAt 83 = .ok (.iconst 0, 1) := by decide +kernel
theorem dX1_tellsAt_84 : decode cX1_tellsAt 84 = .ok (.ireturn, 1) := by decide +kernel
theorem dX1_soreBelow_0 : decode cX1_soreBelow 0 = .ok (.iload_n 0, 1) := by decide +kernel
theorem dX1_soreBelow_1 : decode cX1_soreBelow 1 = .ok (.tableswitch 47 1 5 #[35, 38, 41, 35, 44], 35) := by decide +kernel
theorem dX1_soreBelow_36 : decode cX1_soreBelow 36 = .ok (.bipush (-50), 2) := by decide +kernel
theorem dX1_soreBelow_38 : decode cX1_soreBelow 38 = .ok (.ireturn, 1) := by decide +kernel
theorem dX1_soreBelow_39 : decode cX1_soreBelow 39 = .ok (.bipush (-15), 2) := by decide +kernel
theorem dX1_soreBelow_41 : decode cX1_soreBelow 41 = .ok (.ireturn, 1) := by decide +kernel
theorem dX1_soreBelow_42 : decode cX1_soreBelow 42 = .ok (.bipush (-10), 2) := by decide +kernel
theorem dX1_soreBelow_44 : decode cX1_soreBelow 44 = .ok (.ireturn, 1) := by decide +kernel
theorem dX1_soreBelow_45 : decode cX1_soreBelow 45 = .ok (.bipush (-5), 2) := by decide +kernel
theorem dX1_soreBelow_47 : decode cX1_soreBelow 47 = .ok (.ireturn, 1) := by decide +kernel
theorem dX1_soreBelow_48 : decode cX1_soreBelow 48 = .ok (.bipush (-20), 2) := by decide +kernel
theorem dX1_soreBelow_50 : decode cX1_soreBelow 50 = .ok (.ireturn, 1) := by decide +kernel
theorem dX2_init_0 : decode cX2_init 0 = .ok (.aload_n 0, 1) := by decide +kernel
theorem dX2_init_1 : decode cX2_init 1 = .ok (.invokespecial 3, 3) := by decide +kernel
theorem dX2_init_4 : decode cX2_init 4 = .ok (.aload_n 0, 1) := by decide +kernel
theorem dX2_init_5 : decode cX2_init 5 = .ok (.iconst 0, 1) := by decide +kernel
theorem dX2_init_6 : decode cX2_init 6 = .ok (.putfield 9, 3) := by decide +kernel
theorem dX2_init_9 : decode cX2_init 9 = .ok (.aload_n 0, 1) := by decide +kernel
theorem dX2_init_10 : decode cX2_init 10 = .ok (.iconst 0, 1) := by decide +kernel
theorem dX2_init_11 : decode cX2_init 11 = .ok (.putfield 15, 3) := by decide +kernel
theorem dX2_init_14 : decode cX2_init 14 = .ok (.aload_n 0, 1) := by decide +kernel
theorem dX2_init_15 : decode cX2_init 15 = .ok (.bipush 40, 2) := by decide +kernel
theorem dX2_init_17 : decode cX2_init 17 = .ok (.newarray .long, 2) := by decide +kernel
theorem dX2_init_19 : decode cX2_init 19 = .ok (.putfield 18, 3) := by decide +kernel
theorem dX2_init_22 : decode cX2_init 22 = .ok (.return_, 1) := by decide +kernel
set_option maxRecDepth 20000 in
theorem ggX2_begin_J7_fill_d0a16 : GoodIn wsX2_begin wsJ7_fill_d0a16 := goodIn_r _ [7] (by decide +kernel) (by decide +kernel)
set_option maxRecDepth 20000 in
theorem gX2_begin_J7_fill_d0a16 : GoodIn wsX2_begin (va_wsS RX2 22 yJ7_fill_d0a16 wsJ7_fill_d0a16) := goodIn_app (goodIn_of _ (by decide +kernel)) ggX2_begin_J7_fill_d0a16
theorem dX2_begin_0 : decode cX2_begin 0 = .ok (.aload_n 0, 1) := by decide +kernel
theorem dX2_begin_1 : decode cX2_begin 1 = .ok (.iload_n 1, 1) := by decide +kernel
theorem dX2_begin_2 : decode cX2_begin 2 = .ok (.putfield 9, 3) := by decide +kernel
theorem dX2_begin_5 : decode cX2_begin 5 = .ok (.aload_n 0, 1) := by decide +kernel
theorem dX2_begin_6 : decode cX2_begin 6 = .ok (.iload_n 1, 1) := by decide +kernel
theorem dX2_begin_7 : decode cX2_begin 7 = .ok (.ifCond .ne 7, 3) := by decide +kernel
theorem dX2_begin_10 : decode cX2_begin 10 = .ok (.iconst 0, 1) := by decide +kernel
theorem dX2_begin_11 : decode cX2_begin 11 = .ok (.goto 4, 3) := by decide +kernel
theorem dX2_begin_14 : decode cX2_begin 14 = .ok (.iload_n 2, 1) := by decide +kernel
theorem dX2_begin_15 : decode cX2_begin 15 = .ok (.putfield 15, 3) := by decide +kernel
theorem dX2_begin_18 : decode cX2_begin 18 = .ok (.aload_n 0, 1) := by decide +kernel
theorem dX2_begin_19 : decode cX2_begin 19 = .ok (.getfield 18, 3) := by decide +kernel
theorem dX2_begin_22 : decode cX2_begin 22 = .ok (.lconst 0, 1) := by decide +kernel
theorem dX2_begin_23 : decode cX2_begin 23 = .ok (.invokestatic 22, 3) := by decide +kernel
theorem dX2_begin_26 : decode cX2_begin 26 = .ok (.return_, 1) := by decide +kernel
theorem dX2_isMissing_0 : decode cX2_isMissing 0 = .ok (.aload_n 0, 1) := by decide +kernel
theorem dX2_isMissing_1 : decode cX2_isMissing 1 = .ok (.getfield 9, 3) := by decide +kernel
theorem dX2_isMissing_4 : decode cX2_isMissing 4 = .ok (.ifCond .ne 7, 3) := by decide +kernel
theorem dX2_isMissing_7 : decode cX2_isMissing 7 = .ok (.iconst 1, 1) := by decide +kernel
theorem dX2_isMissing_8 : decode cX2_isMissing 8 = .ok (.goto 4, 3) := by decide +kernel
theorem dX2_isMissing_11 : decode cX2_isMissing 11 = .ok (.iconst 0, 1) := by decide +kernel
theorem dX2_isMissing_12 : decode cX2_isMissing 12 = .ok (.ireturn, 1) := by decide +kernel
theorem dX2_has_0 : decode cX2_has 0 = .ok (.iload_n 1, 1) := by decide +kernel
theorem dX2_has_1 : decode cX2_has 1 = .ok (.ifCond .lt 15, 3) := by decide +kernel
theorem dX2_has_4 : decode cX2_has 4 = .ok (.iload_n 1, 1) := by decide +kernel
theorem dX2_has_5 : decode cX2_has 5 = .ok (.aload_n 0, 1) := by decide +kernel
theorem dX2_has_6 : decode cX2_has 6 = .ok (.getfield 15, 3) := by decide +kernel
theorem dX2_has_9 : decode cX2_has 9 = .ok (.if_icmp .ge 7, 3) := by decide +kernel
theorem dX2_has_12 : decode cX2_has 12 = .ok (.iconst 1, 1) := by decide +kernel
theorem dX2_has_13 : decode cX2_has 13 = .ok (.goto 4, 3) := by decide +kernel
theorem dX2_has_16 : decode cX2_has 16 = .ok (.iconst 0, 1) := by decide +kernel
theorem dX2_has_17 : decode cX2_has 17 = .ok (.ireturn, 1) := by decide +kernel
theorem dX2_hasRun_0 : decode cX2_hasRun 0 = .ok (.iload_n 1, 1) := by decide +kernel
theorem dX2_hasRun_1 : decode cX2_hasRun 1 = .ok (.ifCond .lt 29, 3) := by decide +kernel
theorem dX2_hasRun_4 : decode cX2_hasRun 4 = .ok (.iload_n 2, 1) := by decide +kernel
theorem dX2_hasRun_5 : decode cX2_hasRun 5 = .ok (.ifCond .lt 25, 3) := by decide +kernel
theorem dX2_hasRun_8 : decode cX2_hasRun 8 = .ok (.iload_n 2, 1) := by decide +kernel
theorem dX2_hasRun_9 : decode cX2_hasRun 9 = .ok (.aload_n 0, 1) := by decide +kernel
theorem dX2_hasRun_10 : decode cX2_hasRun 10 = .ok (.getfield 15, 3) := by decide +kernel
theorem dX2_hasRun_13 : decode cX2_hasRun 13 = .ok (.if_icmp .gt 17, 3) := by decide +kernel
theorem dX2_hasRun_16 : decode cX2_hasRun 16 = .ok (.iload_n 1, 1) := by decide +kernel
theorem dX2_hasRun_17 : decode cX2_hasRun 17 = .ok (.aload_n 0, 1) := by decide +kernel
theorem dX2_hasRun_18 : decode cX2_hasRun 18 = .ok (.getfield 15, 3) := by decide +kernel
theorem dX2_hasRun_21 : decode cX2_hasRun 21 = .ok (.iload_n 2, 1) := by decide +kernel
theorem dX2_hasRun_22 : decode cX2_hasRun 22 = .ok (.isub, 1) := by decide +kernel
theorem dX2_hasRun_23 : decode cX2_hasRun 23 = .ok (.if_icmp .gt 7, 3) := by decide +kernel
theorem dX2_hasRun_26 : decode cX2_hasRun 26 = .ok (.iconst 1, 1) := by decide +kernel
theorem dX2_hasRun_27 : decode cX2_hasRun 27 = .ok (.goto 4, 3) := by decide +kernel
theorem dX2_hasRun_30 : decode cX2_hasRun 30 = .ok (.iconst 0, 1) := by decide +kernel
theorem dX2_hasRun_31 : decode cX2_hasRun 31 = .ok (.ireturn, 1) := by decide +kernel
theorem dX2_put_0 : decode cX2_put 0 = .ok (.aload_n 0, 1) := by decide +kernel
theorem dX2_put_1 : decode cX2_put 1 = .ok (.getfield 18, 3) := by decide +kernel
theorem dX2_put_4 : decode cX2_put 4 = .ok (.iload_n 1, 1) := by decide +kernel
theorem dX2_put_5 : decode cX2_put 5 = .ok (.aload_n 0, 1) := by decide +kernel
theorem dX2_put_6 : decode cX2_put 6 = .ok (.getfield 9, 3) := by decide +kernel
theorem dX2_put_9 : decode cX2_put 9 = .ok (.bipush 8, 2) := by decide +kernel
theorem dX2_put_11 : decode cX2_put 11 = .ok (.if_icmp .ne 10, 3) := by decide +kernel
theorem dX2_put_14 : decode cX2_put 14 = .ok (.lload_n 2, 1) := by decide +kernel
theorem dX2_put_15 : decode cX2_put 15 = .ok (.l2i, 1) := by decide +kernel
theorem dX2_put_16 : decode cX2_put 16 = .ok (.i2b, 1) := by decide +kernel
theorem dX2_put_17 : decode cX2_put 17 = .ok (.i2l, 1) := by decide +kernel
theorem dX2_put_18 : decode cX2_put 18 = .ok (.goto 20, 3) := by decide +kernel
theorem dX2_put_21 : decode cX2_put 21 = .ok (.aload_n 0, 1) := by decide +kernel
theorem dX2_put_22 : decode cX2_put 22 = .ok (.getfield 9, 3) := by decide +kernel
theorem dX2_put_25 : decode cX2_put 25 = .ok (.bipush 16, 2) := by decide +kernel
theorem dX2_put_27 : decode cX2_put 27 = .ok (.if_icmp .ne 10, 3) := by decide +kernel
theorem dX2_put_30 : decode cX2_put 30 = .ok (.lload_n 2, 1) := by decide +kernel
theorem dX2_put_31 : decode cX2_put 31 = .ok (.l2i, 1) := by decide +kernel
theorem dX2_put_32 : decode cX2_put 32 = .ok (.i2s, 1) := by decide +kernel
theorem dX2_put_33 : decode cX2_put 33 = .ok (.i2l, 1) := by decide +kernel
theorem dX2_put_34 : decode cX2_put 34 = .ok (.goto 4, 3) := by decide +kernel
theorem dX2_put_37 : decode cX2_put 37 = .ok (.lload_n 2, 1) := by decide +kernel
theorem dX2_put_38 : decode cX2_put 38 = .ok (.lastore, 1) := by decide +kernel
theorem dX2_put_39 : decode cX2_put 39 = .ok (.return_, 1) := by decide +kernel
set_option maxRecDepth 20000 in
theorem ggX3_init_J7_fill_53178 : GoodIn wsX3_init wsJ7_fill_53178 := goodIn_r _ [21] (by decide +kernel) (by decide +kernel)
set_option maxRecDepth 20000 in
theorem gX3_init_J7_fill_53178 : GoodIn wsX3_init (va_wsS RX3 28 yJ7_fill_53178 wsJ7_fill_53178) := goodIn_app (goodIn_of _ (by decide +kernel)) ggX3_init_J7_fill_53178
theorem dX3_init_0 : decode cX3_init 0 = .ok (.aload_n 0, 1) := by decide +kernel
theorem dX3_init_1 : decode cX3_init 1 = .ok (.invokespecial 3, 3) := by decide +kernel
theorem dX3_init_4 : decode cX3_init 4 = .ok (.aload_n 0, 1) := by decide +kernel
theorem dX3_init_5 : decode cX3_init 5 = .ok (.iconst 0, 1) := by decide +kernel
theorem dX3_init_6 : decode cX3_init 6 = .ok (.putfield 9, 3) := by decide +kernel
theorem dX3_init_9 : decode cX3_init 9 = .ok (.aload_n 0, 1) := by decide +kernel
theorem dX3_init_10 : decode cX3_init 10 = .ok (.bipush 10, 2) := by decide +kernel
theorem dX3_init_12 : decode cX3_init 12 = .ok (.newarray .int, 2) := by decide +kernel
theorem dX3_init_14 : decode cX3_init 14 = .ok (.putfield 15, 3) := by decide +kernel
theorem dX3_init_17 : decode cX3_init 17 = .ok (.aload_n 0, 1) := by decide +kernel
theorem dX3_init_18 : decode cX3_init 18 = .ok (.bipush 10, 2) := by decide +kernel
theorem dX3_init_20 : decode cX3_init 20 = .ok (.newarray .int, 2) := by decide +kernel
theorem dX3_init_22 : decode cX3_init 22 = .ok (.putfield 19, 3) := by decide +kernel
theorem dX3_init_25 : decode cX3_init 25 = .ok (.aload_n 0, 1) := by decide +kernel
theorem dX3_init_26 : decode cX3_init 26 = .ok (.bipush 10, 2) := by decide +kernel
theorem dX3_init_28 : decode cX3_init 28 = .ok (.newarray .int, 2) := by decide +kernel
theorem dX3_init_30 : decode cX3_init 30 = .ok (.putfield 22, 3) := by decide +kernel
theorem dX3_init_33 : decode cX3_init 33 = .ok (.aload_n 0, 1) := by decide +kernel
theorem dX3_init_34 : decode cX3_init 34 = .ok (.bipush 10, 2) := by decide +kernel
theorem dX3_init_36 : decode cX3_init 36 = .ok (.newarray .int, 2) := by decide +kernel
theorem dX3_init_38 : decode cX3_init 38 = .ok (.putfield 25, 3) := by decide +kernel
theorem dX3_init_41 : decode cX3_init 41 = .ok (.aload_n 0, 1) := by decide +kernel
theorem dX3_init_42 : decode cX3_init 42 = .ok (.getfield 25, 3) := by decide +kernel
theorem dX3_init_45 : decode cX3_init 45 = .ok (.iconst (-1), 1) := by decide +kernel
theorem dX3_init_46 : decode cX3_init 46 = .ok (.invokestatic 28, 3) := by decide +kernel
theorem dX3_init_49 : decode cX3_init 49 = .ok (.aload_n 0, 1) := by decide +kernel
theorem dX3_init_50 : decode cX3_init 50 = .ok (.iconst 0, 1) := by decide +kernel
theorem dX3_init_51 : decode cX3_init 51 = .ok (.putfield 34, 3) := by decide +kernel
theorem dX3_init_54 : decode cX3_init 54 = .ok (.aload_n 0, 1) := by decide +kernel
theorem dX3_init_55 : decode cX3_init 55 = .ok (.bipush 8, 2) := by decide +kernel
theorem dX3_init_57 : decode cX3_init 57 = .ok (.newarray .int, 2) := by decide +kernel
theorem dX3_init_59 : decode cX3_init 59 = .ok (.putfield 37, 3) := by decide +kernel
theorem dX3_init_62 : decode cX3_init 62 = .ok (.aload_n 0, 1) := by decide +kernel
theorem dX3_init_63 : decode cX3_init 63 = .ok (.bipush 8, 2) := by decide +kernel
theorem dX3_init_65 : decode cX3_init 65 = .ok (.newarray .int, 2) := by decide +kernel
theorem dX3_init_67 : decode cX3_init 67 = .ok (.putfield 40, 3) := by decide +kernel
theorem dX3_init_70 : decode cX3_init 70 = .ok (.aload_n 0, 1) := by decide +kernel
theorem dX3_init_71 : decode cX3_init 71 = .ok (.bipush 8, 2) := by decide +kernel
theorem dX3_init_73 : decode cX3_init 73 = .ok (.newarray .int, 2) := by decide +kernel
theorem dX3_init_75 : decode cX3_init 75 = .ok (.putfield 43, 3) := by decide +kernel
theorem dX3_init_78 : decode cX3_init 78 = .ok (.aload_n 0, 1) := by decide +kernel
theorem dX3_init_79 : decode cX3_init 79 = .ok (.bipush 8, 2) := by decide +kernel
theorem dX3_init_81 : decode cX3_init 81 = .ok (.newarray .int, 2) := by decide +kernel
theorem dX3_init_83 : decode cX3_init 83 = .ok (.putfield 46, 3) := by decide +kernel
theorem dX3_init_86 : decode cX3_init 86 = .ok (.aload_n 0, 1) := by decide +kernel
theorem dX3_init_87 : decode cX3_init 87 = .ok (.bipush 8, 2) := by decide +kernel
theorem dX3_init_89 : decode cX3_init 89 = .ok (.newarray .int, 2) := by decide +kernel
theorem dX3_init_91 : decode cX3_init 91 = .ok (.putfield 49, 3) := by decide +kernel
theorem dX3_init_94 : decode cX3_init 94 = .ok (.aload_n 0, 1) := by decide +kernel
theorem dX3_init_95 : decode cX3_init 95 = .ok (.bipush 8, 2) := by decide +kernel
theorem dX3_init_97 : decode cX3_init 97 = .ok (.newarray .int, 2) := by decide +kernel
theorem dX3_init_99 : decode cX3_init 99 = .ok (.putfield 52, 3) := by decide +kernel
theorem dX3_init_102 : decode cX3_init 102 = .ok (.aload_n 0, 1) := by decide +kernel
theorem dX3_init_103 : decode cX3_init 103 = .ok (.bipush 8, 2) := by decide +kernel
theorem dX3_init_105 : decode cX3_init 105 = .ok (.newarray .int, 2) := by decide +kernel
theorem dX3_init_107 : decode cX3_init 107 = .ok (.putfield 55, 3) := by decide +kernel
theorem dX3_init_110 : decode cX3_init 110 = .ok (.return_, 1) := by decide +kernel
theorem dX3_become_0 : decode cX3_become 0 = .ok (.aload_n 0, 1) := by decide +kernel
theorem dX3_become_1 : decode cX3_become 1 = .ok (.aload_n 1, 1) := by decide +kernel
theorem dX3_become_2 : decode cX3_become 2 = .ok (.getfield 9, 3) := by decide +kernel
theorem dX3_become_5 : decode cX3_become 5 = .ok (.putfield 9, 3) := by decide +kernel
theorem dX3_become_8 : decode cX3_become 8 = .ok (.aload_n 1, 1) := by decide +kernel
theorem dX3_become_9 : decode cX3_become 9 = .ok (.getfield 15, 3) := by decide +kernel
theorem dX3_become_12 : decode cX3_become 12 = .ok (.iconst 0, 1) := by decide +kernel
theorem dX3_become_13 : decode cX3_become 13 = .ok (.aload_n 0, 1) := by decide +kernel
theorem dX3_become_14 : decode cX3_become 14 = .ok (.getfield 15, 3) := by decide +kernel
theorem dX3_become_17 : decode cX3_become 17 = .ok (.iconst 0, 1) := by decide +kernel
theorem dX3_become_18 : decode cX3_become 18 = .ok (.bipush 10, 2) := by decide +kernel
theorem dX3_become_20 : decode cX3_become 20 = .ok (.invokestatic 58, 3) := by decide +kernel
theorem dX3_become_23 : decode cX3_become 23 = .ok (.aload_n 1, 1) := by decide +kernel
theorem dX3_become_24 : decode cX3_become 24 = .ok (.getfield 19, 3) := by decide +kernel
theorem dX3_become_27 : decode cX3_become 27 = .ok (.iconst 0, 1) := by decide +kernel
theorem dX3_become_28 : decode cX3_become 28 = .ok (.aload_n 0, 1) := by decide +kernel
theorem dX3_become_29 : decode cX3_become 29 = .ok (.getfield 19, 3) := by decide +kernel
theorem dX3_become_32 : decode cX3_become 32 = .ok (.iconst 0, 1) := by decide +kernel
theorem dX3_become_33 : decode cX3_become 33 = .ok (.bipush 10, 2) := by decide +kernel
theorem dX3_become_35 : decode cX3_become 35 = .ok (.invokestatic 58, 3) := by decide +kernel
theorem dX3_become_38 : decode cX3_become 38 = .ok (.aload_n 1, 1) := by decide +kernel
theorem dX3_become_39 : decode cX3_become 39 = .ok (.getfield 22, 3) := by decide +kernel
theorem dX3_become_42 : decode cX3_become 42 = .ok (.iconst 0, 1) := by decide +kernel
theorem dX3_become_43 : decode cX3_become 43 = .ok (.aload_n 0, 1) := by decide +kernel
theorem dX3_become_44 : decode cX3_become 44 = .ok (.getfield 22, 3) := by decide +kernel
theorem dX3_become_47 : decode cX3_become 47 = .ok (.iconst 0, 1) := by decide +kernel
theorem dX3_become_48 : decode cX3_become 48 = .ok (.bipush 10, 2) := by decide +kernel
theorem dX3_become_50 : decode cX3_become 50 = .ok (.invokestatic 58, 3) := by decide +kernel
theorem dX3_become_53 : decode cX3_become 53 = .ok (.aload_n 1, 1) := by decide +kernel
theorem dX3_become_54 : decode cX3_become 54 = .ok (.getfield 25, 3) := by decide +kernel
theorem dX3_become_57 : decode cX3_become 57 = .ok (.iconst 0, 1) := by decide +kernel
theorem dX3_become_58 : decode cX3_become 58 = .ok (.aload_n 0, 1) := by decide +kernel
theorem dX3_become_59 : decode cX3_become 59 = .ok (.getfield 25, 3) := by decide +kernel
theorem dX3_become_62 : decode cX3_become 62 = .ok (.iconst 0, 1) := by decide +kernel
theorem dX3_become_63 : decode cX3_become 63 = .ok (.bipush 10, 2) := by decide +kernel
theorem dX3_become_65 : decode cX3_become 65 = .ok (.invokestatic 58, 3) := by decide +kernel
theorem dX3_become_68 : decode cX3_become 68 = .ok (.aload_n 0, 1) := by decide +kernel
theorem dX3_become_69 : decode cX3_become 69 = .ok (.aload_n 1, 1) := by decide +kernel
theorem dX3_become_70 : decode cX3_become 70 = .ok (.getfield 34, 3) := by decide +kernel
theorem dX3_become_73 : decode cX3_become 73 = .ok (.putfield 34, 3) := by decide +kernel
theorem dX3_become_76 : decode cX3_become 76 = .ok (.aload_n 1, 1) := by decide +kernel
theorem dX3_become_77 : decode cX3_become 77 = .ok (.getfield 37, 3) := by decide +kernel
theorem dX3_become_80 : decode cX3_become 80 = .ok (.iconst 0, 1) := by decide +kernel
theorem dX3_become_81 : decode cX3_become 81 = .ok (.aload_n 0, 1) := by decide +kernel
theorem dX3_become_82 : decode cX3_become 82 = .ok (.getfield 37, 3) := by decide +kernel
theorem dX3_become_85 : decode cX3_become 85 = .ok (.iconst 0, 1) := by decide +kernel
theorem dX3_become_86 : decode cX3_become 86 = .ok (.bipush 8, 2) := by decide +kernel
theorem dX3_become_88 : decode cX3_become 88 = .ok (.invokestatic 58, 3) := by decide +kernel
theorem dX3_become_91 : decode cX3_become 91 = .ok (.aload_n 1, 1) := by decide +kernel
theorem dX3_become_92 : decode cX3_become 92 = .ok (.getfield 40, 3) := by decide +kernel
theorem dX3_become_95 : decode cX3_become 95 = .ok (.iconst 0, 1) := by decide +kernel
theorem dX3_become_96 : decode cX3_become 96 = .ok (.aload_n 0, 1) := by decide +kernel
theorem dX3_become_97 : decode cX3_become 97 = .ok (.getfield 40, 3) := by decide +kernel
theorem dX3_become_100 : decode cX3_become 100 = .ok (.iconst 0, 1) := by decide +kernel
theorem dX3_become_101 : decode cX3_become 101 = .ok (.bipush 8, 2) := by decide +kernel
theorem dX3_become_103 : decode cX3_become 103 = .ok (.invokestatic 58, 3) := by decide +kernel
theorem dX3_become_106 : decode cX3_become 106 = .ok (.aload_n 1, 1) := by decide +kernel
theorem dX3_become_107 : decode cX3_become 107 = .ok (.getfield 43, 3) := by decide +kernel
theorem dX3_become_110 : decode cX3_become 110 = .ok (.iconst 0, 1) := by decide +kernel
theorem dX3_become_111 : decode cX3_become 111 = .ok (.aload_n 0, 1) := by decide +kernel
theorem dX3_become_112 : decode cX3_become 112 = .ok (.getfield 43, 3) := by decide +kernel
theorem dX3_become_115 : decode cX3_become 115 = .ok (.iconst 0, 1) := by decide +kernel
theorem dX3_become_116 : decode cX3_become 116 = .ok (.bipush 8, 2) := by decide +kernel
theorem dX3_become_118 : decode cX3_become 118 = .ok (.invokestatic 58, 3) := by decide +kernel
theorem dX3_become_121 : decode cX3_become 121 = .ok (.aload_n 1, 1) := by decide +kernel
theorem dX3_become_122 : decode cX3_become 122 = .ok (.getfield 46, 3) := by decide +kernel
theorem dX3_become_125 : decode cX3_become 125 = .ok (.iconst 0, 1) := by decide +kernel
theorem dX3_become_126 : decode cX3_become 126 = .ok (.aload_n 0, 1) := by decide +kernel
theorem dX3_become_127 : decode cX3_become 127 = .ok (.getfield 46, 3) := by decide +kernel
theorem dX3_become_130 : decode cX3_become 130 = .ok (.iconst 0, 1) := by decide +kernel
theorem dX3_become_131 : decode cX3_become 131 = .ok (.bipush 8, 2) := by decide +kernel
theorem dX3_become_133 : decode cX3_become 133 = .ok (.invokestatic 58, 3) := by decide +kernel
theorem dX3_become_136 : decode cX3_become 136 = .ok (.aload_n 1, 1) := by decide +kernel
theorem dX3_become_137 : decode cX3_become 137 = .ok (.getfield 49, 3) := by decide +kernel
theorem dX3_become_140 : decode cX3_become 140 = .ok (.iconst 0, 1) := by decide +kernel
theorem dX3_become_141 : decode cX3_become 141 = .ok (.aload_n 0, 1) := by decide +kernel
theorem dX3_become_142 : decode cX3_become 142 = .ok (.getfield 49, 3) := by decide +kernel
theorem dX3_become_145 : decode cX3_become 145 = .ok (.iconst 0, 1) := by decide +kernel
theorem dX3_become_146 : decode cX3_become 146 = .ok (.bipush 8, 2) := by decide +kernel
theorem dX3_become_148 : decode cX3_become 148 = .ok (.invokestatic 58, 3) := by decide +kernel
theorem dX3_become_151 : decode cX3_become 151 = .ok (.return_, 1) := by decide +kernel
theorem dX3_has_0 : decode cX3_has 0 = .ok (.iload_n 1, 1) := by decide +kernel
theorem dX3_has_1 : decode cX3_has 1 = .ok (.ifCond .lt 15, 3) := by decide +kernel
theorem dX3_has_4 : decode cX3_has 4 = .ok (.iload_n 1, 1) := by decide +kernel
theorem dX3_has_5 : decode cX3_has 5 = .ok (.aload_n 0, 1) := by decide +kernel
theorem dX3_has_6 : decode cX3_has 6 = .ok (.getfield 34, 3) := by decide +kernel
theorem dX3_has_9 : decode cX3_has 9 = .ok (.if_icmp .ge 7, 3) := by decide +kernel
theorem dX3_has_12 : decode cX3_has 12 = .ok (.iconst 1, 1) := by decide +kernel
theorem dX3_has_13 : decode cX3_has 13 = .ok (.goto 4, 3) := by decide +kernel
theorem dX3_has_16 : decode cX3_has 16 = .ok (.iconst 0, 1) := by decide +kernel
theorem dX3_has_17 : decode cX3_has 17 = .ok (.ireturn, 1) := by decide +kernel
theorem dX3_freeFor_0 : decode cX3_freeFor 0 = .ok (.aload_n 0, 1) := by decide +kernel
theorem dX3_freeFor_1 : decode cX3_freeFor 1 = .ok (.getfield 25, 3) := by decide +kernel
theorem dX3_freeFor_4 : decode cX3_freeFor 4 = .ok (.iload_n 2, 1) := by decide +kernel
theorem dX3_freeFor_5 : decode cX3_freeFor 5 = .ok (.iaload, 1) := by decide +kernel
theorem dX3_freeFor_6 : decode cX3_freeFor 6 = .ok (.iconst (-1), 1) := by decide +kernel
theorem dX3_freeFor_7 : decode cX3_freeFor 7 = .ok (.if_icmp .eq 13, 3) := by decide +kernel
theorem dX3_freeFor_10 : decode cX3_freeFor 10 = .ok (.aload_n 0, 1) := by decide +kernel
theorem dX3_freeFor_11 : decode cX3_freeFor 11 = .ok (.getfield 25, 3) := by decide +kernel
theorem dX3_freeFor_14 : decode cX3_freeFor 14 = .ok (.iload_n 2, 1) := by decide +kernel
theorem dX3_freeFor_15 : decode cX3_freeFor 15 = .ok (.iaload, 1) := by decide +kernel
theorem dX3_freeFor_16 : decode cX3_freeFor 16 = .ok (.iload_n 1, 1) := by decide +kernel
theorem dX3_freeFor_17 : decode cX3_freeFor 17 = .ok (.if_icmp .ne 7, 3) := by decide +kernel
theorem dX3_freeFor_20 : decode cX3_freeFor 20 = .ok (.iconst 1, 1) := by decide +kernel
theorem dX3_freeFor_21 : decode cX3_freeFor 21 = .ok (.goto 4, 3) := by decide +kernel
theorem dX3_freeFor_24 : decode cX3_freeFor 24 = .ok (.iconst 0, 1) := by decide +kernel
theorem dX3_freeFor_25 : decode cX3_freeFor 25 = .ok (.ireturn, 1) := by decide +kernel
theorem dX3_welcome_0 : decode cX3_welcome 0 = .ok (.aload_n 0, 1) := by decide +kernel
theorem dX3_welcome_1 : decode cX3_welcome 1 = .ok (.getfield 34, 3) := by decide +kernel
theorem dX3_welcome_4 : decode cX3_welcome 4 = .ok (.istore_n 3, 1) := by decide +kernel
theorem dX3_welcome_5 : decode cX3_welcome 5 = .ok (.aload_n 0, 1) := by decide +kernel
theorem dX3_welcome_6 : decode cX3_welcome 6 = .ok (.dup, 1) := by decide +kernel
theorem dX3_welcome_7 : decode cX3_welcome 7 = .ok (.getfield 34, 3) := by decide +kernel
theorem dX3_welcome_10 : decode cX3_welcome 10 = .ok (.iconst 1, 1) := by decide +kernel
theorem dX3_welcome_11 : decode cX3_welcome 11 = .ok (.iadd, 1) := by decide +kernel
theorem dX3_welcome_12 : decode cX3_welcome 12 = .ok (.putfield 34, 3) := by decide +kernel
theorem dX3_welcome_15 : decode cX3_welcome 15 = .ok (.aload_n 0, 1) := by decide +kernel
theorem dX3_welcome_16 : decode cX3_welcome 16 = .ok (.getfield 37, 3) := by decide +kernel
theorem dX3_welcome_19 : decode cX3_welcome 19 = .ok (.iload_n 3, 1) := by decide +kernel
theorem dX3_welcome_20 : decode cX3_welcome 20 = .ok (.iload_n 1, 1) := by decide +kernel
theorem dX3_welcome_21 : decode cX3_welcome 21 = .ok (.iastore, 1) := by decide +kernel
theorem dX3_welcome_22 : decode cX3_welcome 22 = .ok (.aload_n 0, 1) := by decide +kernel
theorem dX3_welcome_23 : decode cX3_welcome 23 = .ok (.getfield 40, 3) := by decide +kernel
theorem dX3_welcome_26 : decode cX3_welcome 26 = .ok (.iload_n 3, 1) := by decide +kernel
theorem dX3_welcome_27 : decode cX3_welcome 27 = .ok (.iload_n 2, 1) := by decide +kernel
theorem dX3_welcome_28 : decode cX3_welcome 28 = .ok (.iastore, 1) := by decide +kernel
theorem dX3_welcome_29 : decode cX3_welcome 29 = .ok (.aload_n 0, 1) := by decide +kernel
theorem dX3_welcome_30 : decode cX3_welcome 30 = .ok (.getfield 43, 3) := by decide +kernel
theorem dX3_welcome_33 : decode cX3_welcome 33 = .ok (.iload_n 3, 1) := by decide +kernel
theorem dX3_welcome_34 : decode cX3_welcome 34 = .ok (.iconst 0, 1) := by decide +kernel
theorem dX3_welcome_35 : decode cX3_welcome 35 = .ok (.iastore, 1) := by decide +kernel
theorem dX3_welcome_36 : decode cX3_welcome 36 = .ok (.aload_n 0, 1) := by decide +kernel
theorem dX3_welcome_37 : decode cX3_welcome 37 = .ok (.getfield 46, 3) := by decide +kernel
theorem dX3_welcome_40 : decode cX3_welcome 40 = .ok (.iload_n 3, 1) := by decide +kernel
theorem dX3_welcome_41 : decode cX3_welcome 41 = .ok (.iconst 0, 1) := by decide +kernel
theorem dX3_welcome_42 : decode cX3_welcome 42 = .ok (.iastore, 1) := by decide +kernel
theorem dX3_welcome_43 : decode cX3_welcome 43 = .ok (.aload_n 0, 1) := by decide +kernel
theorem dX3_welcome_44 : decode cX3_welcome 44 = .ok (.getfield 49, 3) := by decide +kernel
theorem dX3_welcome_47 : decode cX3_welcome 47 = .ok (.iload_n 3, 1) := by decide +kernel
theorem dX3_welcome_48 : decode cX3_welcome 48 = .ok (.iconst 0, 1) := by decide +kernel
theorem dX3_welcome_49 : decode cX3_welcome 49 = .ok (.iastore, 1) := by decide +kernel
theorem dX3_welcome_50 : decode cX3_welcome 50 = .ok (.aload_n 0, 1) := by decide +kernel
theorem dX3_welcome_51 : decode cX3_welcome 51 = .ok (.getfield 25, 3) := by decide +kernel
theorem dX3_welcome_54 : decode cX3_welcome 54 = .ok (.iload_n 2, 1) := by decide +kernel
theorem dX3_welcome_55 : decode cX3_welcome 55 = .ok (.iload_n 3, 1) := by decide +kernel
theorem dX3_welcome_56 : decode cX3_welcome 56 = .ok (.iastore, 1) := by decide +kernel
theorem dX3_welcome_57 : decode cX3_welcome 57 = .ok (.iload_n 3, 1) := by decide +kernel
theorem dX3_welcome_58 : decode cX3_welcome 58 = .ok (.ireturn, 1) := by decide +kernel
theorem dX3_move_0 : decode cX3_move 0 = .ok (.aload_n 0, 1) := by decide +kernel
theorem dX3_move_1 : decode cX3_move 1 = .ok (.getfield 25, 3) := by decide +kernel
theorem dX3_move_4 : decode cX3_move 4 = .ok (.aload_n 0, 1) := by decide +kernel
theorem dX3_move_5 : decode cX3_move 5 = .ok (.getfield 40, 3) := by decide +kernel
theorem dX3_move_8 : decode cX3_move 8 = .ok (.iload_n 1, 1) := by decide +kernel
theorem dX3_move_9 : decode cX3_move 9 = .ok (.iaload, 1) := by decide +kernel
theorem dX3_move_10 : decode cX3_move 10 = .ok (.iconst (-1), 1) := by decide +kernel
theorem dX3_move_11 : decode cX3_move 11 = .ok (.iastore, 1) := by decide +kernel
theorem dX3_move_12 : decode cX3_move 12 = .ok (.aload_n 0, 1) := by decide +kernel
theorem dX3_move_13 : decode cX3_move 13 = .ok (.getfield 40, 3) := by decide +kernel
theorem dX3_move_16 : decode cX3_move 16 = .ok (.iload_n 1, 1) := by decide +kernel
theorem dX3_move_17 : decode cX3_move 17 = .ok (.iload_n 2, 1) := by decide +kernel
theorem dX3_move_18 : decode cX3_move 18 = .ok (.iastore, 1) := by decide +kernel
theorem dX3_move_19 : decode cX3_move 19 = .ok (.aload_n 0, 1) := by decide +kernel
theorem dX3_move_20 : decode cX3_move 20 = .ok (.getfield 25, 3) := by decide +kernel
theorem dX3_move_23 : decode cX3_move 23 = .ok (.iload_n 2, 1) := by decide +kernel
theorem dX3_move_24 : decode cX3_move 24 = .ok (.iload_n 1, 1) := by decide +kernel
theorem dX3_move_25 : decode cX3_move 25 = .ok (.iastore, 1) := by decide +kernel
theorem dX3_move_26 : decode cX3_move 26 = .ok (.return_, 1) := by decide +kernel
theorem dX3_exchange_0 : decode cX3_exchange 0 = .ok (.aload_n 0, 1) := by decide +kernel
theorem dX3_exchange_1 : decode cX3_exchange 1 = .ok (.getfield 40, 3) := by decide +kernel
theorem dX3_exchange_4 : decode cX3_exchange 4 = .ok (.iload_n 1, 1) := by decide +kernel
theorem dX3_exchange_5 : decode cX3_exchange 5 = .ok (.iaload, 1) := by decide +kernel
theorem dX3_exchange_6 : decode cX3_exchange 6 = .ok (.istore_n 3, 1) := by decide +kernel
theorem dX3_exchange_7 : decode cX3_exchange 7 = .ok (.aload_n 0, 1) := by decide +kernel
theorem dX3_exchange_8 : decode cX3_exchange 8 = .ok (.getfield 40, 3) := by decide +kernel
theorem dX3_exchange_11 : decode cX3_exchange 11 = .ok (.iload_n 1, 1) := by decide +kernel
theorem dX3_exchange_12 : decode cX3_exchange 12 = .ok (.aload_n 0, 1) := by decide +kernel
theorem dX3_exchange_13 : decode cX3_exchange 13 = .ok (.getfield 40, 3) := by decide +kernel
theorem dX3_exchange_16 : decode cX3_exchange 16 = .ok (.iload_n 2, 1) := by decide +kernel
theorem dX3_exchange_17 : decode cX3_exchange 17 = .ok (.iaload, 1) := by decide +kernel
theorem dX3_exchange_18 : decode cX3_exchange 18 = .ok (.iastore, 1) := by decide +kernel
theorem dX3_exchange_19 : decode cX3_exchange 19 = .ok (.aload_n 0, 1) := by decide +kernel
theorem dX3_exchange_20 : decode cX3_exchange 20 = .ok (.getfield 40, 3) := by decide +kernel
theorem dX3_exchange_23 : decode cX3_exchange 23 = .ok (.iload_n 2, 1) := by decide +kernel
theorem dX3_exchange_24 : decode cX3_exchange 24 = .ok (.iload_n 3, 1) := by decide +kernel
theorem dX3_exchange_25 : decode cX3_exchange 25 = .ok (.iastore, 1) := by decide +kernel
theorem dX3_exchange_26 : decode cX3_exchange 26 = .ok (.aload_n 0, 1) := by decide +kernel
theorem dX3_exchange_27 : decode cX3_exchange 27 = .ok (.getfield 25, 3) := by decide +kernel
theorem dX3_exchange_30 : decode cX3_exchange 30 = .ok (.aload_n 0, 1) := by decide +kernel
theorem dX3_exchange_31 : decode cX3_exchange 31 = .ok (.getfield 40, 3) := by decide +kernel
theorem dX3_exchange_34 : decode cX3_exchange 34 = .ok (.iload_n 1, 1) := by decide +kernel
theorem dX3_exchange_35 : decode cX3_exchange 35 = .ok (.iaload, 1) := by decide +kernel
theorem dX3_exchange_36 : decode cX3_exchange 36 = .ok (.iload_n 1, 1) := by decide +kernel
theorem dX3_exchange_37 : decode cX3_exchange 37 = .ok (.iastore, 1) := by decide +kernel
theorem dX3_exchange_38 : decode cX3_exchange 38 = .ok (.aload_n 0, 1) := by decide +kernel
theorem dX3_exchange_39 : decode cX3_exchange 39 = .ok (.getfield 25, 3) := by decide +kernel
theorem dX3_exchange_42 : decode cX3_exchange 42 = .ok (.aload_n 0, 1) := by decide +kernel
theorem dX3_exchange_43 : decode cX3_exchange 43 = .ok (.getfield 40, 3) := by decide +kernel
theorem dX3_exchange_46 : decode cX3_exchange 46 = .ok (.iload_n 2, 1) := by decide +kernel
theorem dX3_exchange_47 : decode cX3_exchange 47 = .ok (.iaload, 1) := by decide +kernel
theorem dX3_exchange_48 : decode cX3_exchange 48 = .ok (.iload_n 2, 1) := by decide +kernel
theorem dX3_exchange_49 : decode cX3_exchange 49 = .ok (.iastore, 1) := by decide +kernel
theorem dX3_exchange_50 : decode cX3_exchange 50 = .ok (.return_, 1) := by decide +kernel
theorem dX3_layJustSo_0 : decode cX3_layJustSo 0 = .ok (.aload_n 0, 1) := by decide +kernel
theorem dX3_layJustSo_1 : decode cX3_layJustSo 1 = .ok (.getfield 15, 3) := by decide +kernel
theorem dX3_layJustSo_4 : decode cX3_layJustSo 4 = .ok (.iload_n 1, 1) := by decide +kernel
theorem dX3_layJustSo_5 : decode cX3_layJustSo 5 = .ok (.iload_n 2, 1) := by decide +kernel
theorem dX3_layJustSo_6 : decode cX3_layJustSo 6 = .ok (.iastore, 1) := by decide +kernel
theorem dX3_layJustSo_7 : decode cX3_layJustSo 7 = .ok (.aload_n 0, 1) := by decide +kernel
theorem dX3_layJustSo_8 : decode cX3_layJustSo 8 = .ok (.getfield 19, 3) := by decide +kernel
theorem dX3_layJustSo_11 : decode cX3_layJustSo 11 = .ok (.iload_n 1, 1) := by decide +kernel
theorem dX3_layJustSo_12 : decode cX3_layJustSo 12 = .ok (.iload_n 3, 1) := by decide +kernel
theorem dX3_layJustSo_13 : decode cX3_layJustSo 13 = .ok (.iastore, 1) := by decide +kernel
theorem dX3_layJustSo_14 : decode cX3_layJustSo 14 = .ok (.aload_n 0, 1) := by decide +kernel
theorem dX3_layJustSo_15 : decode cX3_layJustSo 15 = .ok (.getfield 22, 3) := by decide +kernel
theorem dX3_layJustSo_18 : decode cX3_layJustSo 18 = .ok (.iload_n 1, 1) := by decide +kernel
theorem dX3_layJustSo_19 : decode cX3_layJustSo 19 = .ok (.iload 4, 2) := by decide +kernel
theorem dX3_layJustSo_21 : decode cX3_layJustSo 21 = .ok (.iastore, 1) := by decide +kernel
theorem dX3_layJustSo_22 : decode cX3_layJustSo 22 = .ok (.return_, 1) := by decide +kernel
set_option maxRecDepth 20000 in
theorem ggX3_neighbours_X3_before : GoodIn wsX3_neighbours wsX3_before := goodIn_r _ [6] (by decide +kernel) (by decide +kernel)
set_option maxRecDepth 20000 in
theorem gX3_neighbours_X3_before : GoodIn wsX3_neighbours (va_wsS RX3 64 yX3_before wsX3_before) := goodIn_app (goodIn_of _ (by decide +kernel)) ggX3_neighbours_X3_before
set_option maxRecDepth 20000 in
theorem ggX3_neighbours_X3_bitOf : GoodIn wsX3_neighbours wsX3_bitOf := goodIn_r _ [9] (by decide +kernel) (by decide +kernel)
set_option maxRecDepth 20000 in
theorem gX3_neighbours_X3_bitOf : GoodIn wsX3_neighbours (va_wsS RX3 68 yX3_bitOf wsX3_bitOf) := goodIn_app (goodIn_of _ (by decide +kernel)) ggX3_neighbours_X3_bitOf
set_option maxRecDepth 20000 in
theorem ggX3_neighbours_X3_behind : GoodIn wsX3_neighbours wsX3_behind := goodIn_r _ [12] (by decide +kernel) (by decide +kernel)
set_option maxRecDepth 20000 in
theorem gX3_neighbours_X3_behind : GoodIn wsX3_neighbours (va_wsS RX3 71 yX3_behind wsX3_behind) := goodIn_app (goodIn_of _ (by decide +kernel)) ggX3_neighbours_X3_behind
theorem dX3_neighbours_0 : decode cX3_neighbours 0 = .ok (.aload_n 0, 1) := by decide +kernel
theorem dX3_neighbours_1 : decode cX3_neighbours 1 = .ok (.getfield 25, 3) := by decide +kernel
theorem dX3_neighbours_4 : decode cX3_neighbours 4 = .ok (.aload_n 0, 1) := by decide +kernel
theorem dX3_neighbours_5 : decode cX3_neighbours 5 = .ok (.getfield 40, 3) := by decide +kernel
theorem dX3_neighbours_8 : decode cX3_neighbours 8 = .ok (.iload_n 1, 1) := by decide +kernel
theorem dX3_neighbours_9 : decode cX3_neighbours 9 = .ok (.iaload, 1) := by decide +kernel
theorem dX3_neighbours_10 : decode cX3_neighbours 10 = .ok (.invokestatic 64, 3) := by decide +kernel
theorem dX3_neighbours_13 : decode cX3_neighbours 13 = .ok (.iaload, 1) := by decide +kernel
theorem dX3_neighbours_14 : decode cX3_neighbours 14 = .ok (.invokestatic 68, 3) := by decide +kernel
theorem dX3_neighbours_17 : decode cX3_neighbours 17 = .ok (.aload_n 0, 1) := by decide +kernel
theorem dX3_neighbours_18 : decode cX3_neighbours 18 = .ok (.getfield 25, 3) := by decide +kernel
theorem dX3_neighbours_21 : decode cX3_neighbours 21 = .ok (.aload_n 0, 1) := by decide +kernel
theorem dX3_neighbours_22 : decode cX3_neighbours 22 = .ok (.getfield 40, 3) := by decide +kernel
theorem dX3_neighbours_25 : decode cX3_neighbours 25 = .ok (.iload_n 1, 1) := by decide +kernel
theorem dX3_neighbours_26 : decode cX3_neighbours 26 = .ok (.iaload, 1) := by decide +kernel
theorem dX3_neighbours_27 : decode cX3_neighbours 27 = .ok (.invokestatic 71, 3) := by decide +kernel
theorem dX3_neighbours_30 : decode cX3_neighbours 30 = .ok (.iaload, 1) := by decide +kernel
theorem dX3_neighbours_31 : decode cX3_neighbours 31 = .ok (.invokestatic 68, 3) := by decide +kernel
theorem dX3_neighbours_34 : decode cX3_neighbours 34 = .ok (.ior, 1) := by decide +kernel
theorem dX3_neighbours_35 : decode cX3_neighbours 35 = .ok (.ireturn, 1) := by decide +kernel
theorem dX3_bitOf_0 : decode cX3_bitOf 0 = .ok (.iload_n 0, 1) := by decide +kernel
theorem dX3_bitOf_1 : decode cX3_bitOf 1 = .ok (.iconst (-1), 1) := by decide +kernel
theorem dX3_bitOf_2 : decode cX3_bitOf 2 = .ok (.if_icmp .ne 7, 3) := by decide +kernel
theorem dX3_bitOf_5 : decode cX3_bitOf 5 = .ok (.iconst 0, 1) := by decide +kernel
theorem dX3_bitOf_6 : decode cX3_bitOf 6 = .ok (.goto 6, 3) := by decide +kernel
theorem dX3_bitOf_9 : decode cX3_bitOf 9 = .ok (.iconst 1, 1) := by decide +kernel
theorem dX3_bitOf_10 : decode cX3_bitOf 10 = .ok (.iload_n 0, 1) := by decide +kernel
theorem dX3_bitOf_11 : decode cX3_bitOf 11 = .ok (.ishl, 1) := by decide +kernel
theorem dX3_bitOf_12 : decode cX3_bitOf 12 = .ok (.ireturn, 1) := by decide +kernel
theorem dX3_before_0 : decode cX3_before 0 = .ok (.iload_n 0, 1) := by decide +kernel
theorem dX3_before_1 : decode cX3_before 1 = .ok (.ifCond .ne 8, 3) := by decide +kernel
theorem dX3_before_4 : decode cX3_before 4 = .ok (.bipush 9, 2) := by decide +kernel
theorem dX3_before_6 : decode cX3_before 6 = .ok (.goto 6, 3) := by decide +kernel
theorem dX3_before_9 : decode cX3_before 9 = .ok (.iload_n 0, 1) := by decide +kernel
theorem dX3_before_10 : decode cX3_before 10 = .ok (.iconst 1, 1) := by decide +kernel
theorem dX3_before_11 : decode cX3_before 11 = .ok (.isub, 1) := by decide +kernel
theorem dX3_before_12 : decode cX3_before 12 = .ok (.ireturn, 1) := by decide +kernel
theorem dX3_behind_0 : decode cX3_behind 0 = .ok (.iload_n 0, 1) := by decide +kernel
theorem dX3_behind_1 : decode cX3_behind 1 = .ok (.bipush 9, 2) := by decide +kernel
theorem dX3_behind_3 : decode cX3_behind 3 = .ok (.if_icmp .ne 7, 3) := by decide +kernel
theorem dX3_behind_6 : decode cX3_behind 6 = .ok (.iconst 0, 1) := by decide +kernel
theorem dX3_behind_7 : decode cX3_behind 7 = .ok (.goto 6, 3) := by decide +kernel
theorem dX3_behind_10 : decode cX3_behind 10 = .ok (.iload_n 0, 1) := by decide +kernel
theorem dX3_behind_11 : decode cX3_behind 11 = .ok (.iconst 1, 1) := by decide +kernel
theorem dX3_behind_12 : decode cX3_behind 12 = .ok (.iadd, 1) := by decide +kernel
theorem dX3_behind_13 : decode cX3_behind 13 = .ok (.ireturn, 1) := by decide +kernel
set_option maxRecDepth 20000 in
theorem ggX3_feeling_X3_neighbours : GoodIn wsX3_feeling wsX3_neighbours := goodIn_r _ [10, 11, 1, 12, 13, 9, 14, 15, 16, 17, 18, 19, 20, 32, 33, 34, 35, 36, 37, 38, 39, 40, 41, 42, 43, 44] (by decide +kernel) (by decide +kernel)
set_option maxRecDepth 20000 in
theorem gX3_feeling_X3_neighbours : GoodIn wsX3_feeling (wsV RX3 74 RX3 yX3_neighbours wsX3_neighbours) := goodIn_app (goodIn_of _ (by decide +kernel)) ggX3_feeling_X3_neighbours
set_option maxRecDepth 20000 in
theorem ggX3_feeling_J6_bitCount_0f7a4 : GoodIn wsX3_feeling wsJ6_bitCount_0f7a4 := goodIn_r _ [24, 25, 26, 27] (by decide +kernel) (by decide +kernel)
set_option maxRecDepth 20000 in
theorem gX3_feeling_J6_bitCount_0f7a4 : GoodIn wsX3_feeling (va_wsS RX3 77 yJ6_bitCount_0f7a4 wsJ6_bitCount_0f7a4) := goodIn_app (goodIn_of _ (by decide +kernel)) ggX3_feeling_J6_bitCount_0f7a4
set_option maxRecDepth 20000 in
theorem ggX3_feeling_X1_feels : GoodIn wsX3_feeling wsX1_feels := goodIn_r _ [31] (by decide +kernel) (by decide +kernel)
set_option maxRecDepth 20000 in
theorem gX3_feeling_X1_feels : GoodIn wsX3_feeling (va_wsS RX3 82 yX1_feels wsX1_feels) := goodIn_app (goodIn_of _ (by decide +kernel)) ggX3_feeling_X1_feels
theorem dX3_feeling_0 : decode cX3_feeling 0 = .ok (.aload_n 0, 1) := by decide +kernel
theorem dX3_feeling_1 : decode cX3_feeling 1 = .ok (.getfield 40, 3) := by decide +kernel
theorem dX3_feeling_4 : decode cX3_feeling 4 = .ok (.iload_n 1, 1) := by decide +kernel
theorem dX3_feeling_5 : decode cX3_feeling 5 = .ok (.iaload, 1) := by decide +kernel
theorem dX3_feeling_6 : decode cX3_feeling 6 = .ok (.istore_n 2, 1) := by decide +kernel
theorem dX3_feeling_7 : decode cX3_feeling 7 = .ok (.aload_n 0, 1) := by decide +kernel
theorem dX3_feeling_8 : decode cX3_feeling 8 = .ok (.iload_n 1, 1) := by decide +kernel
theorem dX3_feeling_9 : decode cX3_feeling 9 = .ok (.invokevirtual 74, 3) := by decide +kernel
theorem dX3_feeling_12 : decode cX3_feeling 12 = .ok (.invokestatic 77, 3) := by decide +kernel
theorem dX3_feeling_15 : decode cX3_feeling 15 = .ok (.istore_n 3, 1) := by decide +kernel
theorem dX3_feeling_16 : decode cX3_feeling 16 = .ok (.aload_n 0, 1) := by decide +kernel
theorem dX3_feeling_17 : decode cX3_feeling 17 = .ok (.getfield 37, 3) := by decide +kernel
theorem dX3_feeling_20 : decode cX3_feeling 20 = .ok (.iload_n 1, 1) := by decide +kernel
theorem dX3_feeling_21 : decode cX3_feeling 21 = .ok (.iaload, 1) := by decide +kernel
theorem dX3_feeling_22 : decode cX3_feeling 22 = .ok (.aload_n 0, 1) := by decide +kernel
theorem dX3_feeling_23 : decode cX3_feeling 23 = .ok (.getfield 15, 3) := by decide +kernel
theorem dX3_feeling_26 : decode cX3_feeling 26 = .ok (.iload_n 2, 1) := by decide +kernel
theorem dX3_feeling_27 : decode cX3_feeling 27 = .ok (.iaload, 1) := by decide +kernel
theorem dX3_feeling_28 : decode cX3_feeling 28 = .ok (.aload_n 0, 1) := by decide +kernel
theorem dX3_feeling_29 : decode cX3_feeling 29 = .ok (.getfield 19, 3) := by decide +kernel
theorem dX3_feeling_32 : decode cX3_feeling 32 = .ok (.iload_n 2, 1) := by decide +kernel
theorem dX3_feeling_33 : decode cX3_feeling 33 = .ok (.iaload, 1) := by decide +kernel
theorem dX3_feeling_34 : decode cX3_feeling 34 = .ok (.aload_n 0, 1) := by decide +kernel
theorem dX3_feeling_35 : decode cX3_feeling 35 = .ok (.getfield 22, 3) := by decide +kernel
theorem dX3_feeling_38 : decode cX3_feeling 38 = .ok (.iload_n 2, 1) := by decide +kernel
theorem dX3_feeling_39 : decode cX3_feeling 39 = .ok (.iaload, 1) := by decide +kernel
theorem dX3_feeling_40 : decode cX3_feeling 40 = .ok (.iload_n 3, 1) := by decide +kernel
theorem dX3_feeling_41 : decode cX3_feeling 41 = .ok (.invokestatic 82, 3) := by decide +kernel
theorem dX3_feeling_44 : decode cX3_feeling 44 = .ok (.ireturn, 1) := by decide +kernel
set_option maxRecDepth 20000 in
theorem ggX3_caught_X3_before : GoodIn wsX3_caught wsX3_before := goodIn_r _ [5] (by decide +kernel) (by decide +kernel)
set_option maxRecDepth 20000 in
theorem gX3_caught_X3_before : GoodIn wsX3_caught (va_wsS RX3 64 yX3_before wsX3_before) := goodIn_app (goodIn_of _ (by decide +kernel)) ggX3_caught_X3_before
set_option maxRecDepth 20000 in
theorem ggX3_caught_X3_caughtFrom : GoodIn wsX3_caught wsX3_caughtFrom := goodIn_r _ [9, 10, 11, 12, 13, 14, 15, 16, 17, 21, 22, 23, 24, 25, 26, 27, 28, 29, 30, 31, 32, 33] (by decide +kernel) (by decide +kernel)
set_option maxRecDepth 20000 in
theorem gX3_caught_X3_caughtFrom : GoodIn wsX3_caught (wsV RX3 88 RX3 yX3_caughtFrom wsX3_caughtFrom) := goodIn_app (goodIn_of _ (by decide +kernel)) ggX3_caught_X3_caughtFrom
set_option maxRecDepth 20000 in
theorem ggX3_caught_X3_behind : GoodIn wsX3_caught wsX3_behind := goodIn_r _ [20] (by decide +kernel) (by decide +kernel)
set_option maxRecDepth 20000 in
theorem gX3_caught_X3_behind : GoodIn wsX3_caught (va_wsS RX3 71 yX3_behind wsX3_behind) := goodIn_app (goodIn_of _ (by decide +kernel)) ggX3_caught_X3_behind
theorem dX3_caught_0 : decode cX3_caught 0 = .ok (.aload_n 0, 1) := by decide +kernel
theorem dX3_caught_1 : decode cX3_caught 1 = .ok (.getfield 40, 3) := by decide +kernel
theorem dX3_caught_4 : decode cX3_caught 4 = .ok (.iload_n 1, 1) := by decide +kernel
theorem dX3_caught_5 : decode cX3_caught 5 = .ok (.iaload, 1) := by decide +kernel
theorem dX3_caught_6 : decode cX3_caught 6 = .ok (.istore_n 2, 1) := by decide +kernel
theorem dX3_caught_7 : decode cX3_caught 7 = .ok (.aload_n 0, 1) := by decide +kernel
theorem dX3_caught_8 : decode cX3_caught 8 = .ok (.iload_n 1, 1) := by decide +kernel
theorem dX3_caught_9 : decode cX3_caught 9 = .ok (.iload_n 2, 1) := by decide +kernel
theorem dX3_caught_10 : decode cX3_caught 10 = .ok (.invokestatic 64, 3) := by decide +kernel
theorem dX3_caught_13 : decode cX3_caught 13 = .ok (.invokevirtual 88, 3) := by decide +kernel
theorem dX3_caught_16 : decode cX3_caught 16 = .ok (.aload_n 0, 1) := by decide +kernel
theorem dX3_caught_17 : decode cX3_caught 17 = .ok (.iload_n 1, 1) := by decide +kernel
theorem dX3_caught_18 : decode cX3_caught 18 = .ok (.iload_n 2, 1) := by decide +kernel
theorem dX3_caught_19 : decode cX3_caught 19 = .ok (.invokestatic 71, 3) := by decide +kernel
theorem dX3_caught_22 : decode cX3_caught 22 = .ok (.invokevirtual 88, 3) := by decide +kernel
theorem dX3_caught_25 : decode cX3_caught 25 = .ok (.iadd, 1) := by decide +kernel
theorem dX3_caught_26 : decode cX3_caught 26 = .ok (.ireturn, 1) := by decide +kernel
set_option maxRecDepth 20000 in
theorem ggX3_caughtFrom_X1_catches : GoodIn wsX3_caughtFrom wsX1_catches := goodIn_r _ [8] (by decide +kernel) (by decide +kernel)
set_option maxRecDepth 20000 in
theorem gX3_caughtFrom_X1_catches : GoodIn wsX3_caughtFrom (va_wsS RX3 92 yX1_catches wsX1_catches) := goodIn_app (goodIn_of _ (by decide +kernel)) ggX3_caughtFrom_X1_catches
theorem dX3_caughtFrom_0 : decode cX3_caughtFrom 0 = .ok (.aload_n 0, 1) := by decide +kernel
theorem dX3_caughtFrom_1 : decode cX3_caughtFrom 1 = .ok (.getfield 25, 3) := by decide +kernel
theorem dX3_caughtFrom_4 : decode cX3_caughtFrom 4 = .ok (.iload_n 2, 1) := by decide +kernel
theorem dX3_caughtFrom_5 : decode cX3_caughtFrom 5 = .ok (.iaload, 1) := by decide +kernel
theorem dX3_caughtFrom_6 : decode cX3_caughtFrom 6 = .ok (.iconst (-1), 1) := by decide +kernel
theorem dX3_caughtFrom_7 : decode cX3_caughtFrom 7 = .ok (.if_icmp .ne 7, 3) := by decide +kernel
theorem dX3_caughtFrom_10 : decode cX3_caughtFrom 10 = .ok (.iconst 0, 1) := by decide +kernel
theorem dX3_caughtFrom_11 : decode cX3_caughtFrom 11 = .ok (.goto 24, 3) := by decide +kernel
theorem dX3_caughtFrom_14 : decode cX3_caughtFrom 14 = .ok (.aload_n 0, 1) := by decide +kernel
theorem dX3_caughtFrom_15 : decode cX3_caughtFrom 15 = .ok (.getfield 37, 3) := by decide +kernel
theorem dX3_caughtFrom_18 : decode cX3_caughtFrom 18 = .ok (.iload_n 1, 1) := by decide +kernel
theorem dX3_caughtFrom_19 : decode cX3_caughtFrom 19 = .ok (.iaload, 1) := by decide +kernel
theorem dX3_caughtFrom_20 : decode cX3_caughtFrom 20 = .ok (.aload_n 0, 1) := by decide +kernel
theorem dX3_caughtFrom_21 : decode cX3_caughtFrom 21 = .ok (.getfield 15, 3) := by decide +kernel
theorem dX3_caughtFrom_24 : decode cX3_caughtFrom 24 = .ok (.iload_n 2, 1) := by decide +kernel
theorem dX3_caughtFrom_25 : decode cX3_caughtFrom 25 = .ok (.iaload, 1) := by decide +kernel
theorem dX3_caughtFrom_26 : decode cX3_caughtFrom 26 = .ok (.aload_n 0, 1) := by decide +kernel
theorem dX3_caughtFrom_27 : decode cX3_caughtFrom 27 = .ok (.getfield 19, 3) := by decide +kernel
theorem dX3_caughtFrom_30 : decode cX3_caughtFrom 30 = .ok (.iload_n 2, 1) := by decide +kernel
theorem dX3_caughtFrom_31 : decode cX3_caughtFrom 31 = .ok (.iaload, 1) := by decide +kernel
theorem dX3_caughtFrom_32 : decode cX3_caughtFrom 32 = .ok (.invokestatic 92, 3) := by decide +kernel
theorem dX3_caughtFrom_35 : decode cX3_caughtFrom 35 = .ok (.ireturn, 1) := by decide +kernel
set_option maxRecDepth 20000 in
theorem ggX3_isTelling_X1_tellsAt : GoodIn wsX3_isTelling wsX1_tellsAt := goodIn_r _ [8] (by decide +kernel) (by decide +kernel)
set_option maxRecDepth 20000 in
theorem gX3_isTelling_X1_tellsAt : GoodIn wsX3_isTelling (va_wsS RX3 96 yX1_tellsAt wsX1_tellsAt) := goodIn_app (goodIn_of _ (by decide +kernel)) ggX3_isTelling_X1_tellsAt
theorem dX3_isTelling_0 : decode cX3_isTelling 0 = .ok (.aload_n 0, 1) := by decide +kernel
theorem dX3_isTelling_1 : decode cX3_isTelling 1 = .ok (.getfield 37, 3) := by decide +kernel
theorem dX3_isTelling_4 : decode cX3_isTelling 4 = .ok (.iload_n 1, 1) := by decide +kernel
theorem dX3_isTelling_5 : decode cX3_isTelling 5 = .ok (.iaload, 1) := by decide +kernel
theorem dX3_isTelling_6 : decode cX3_isTelling 6 = .ok (.aload_n 0, 1) := by decide +kernel
theorem dX3_isTelling_7 : decode cX3_isTelling 7 = .ok (.getfield 22, 3) := by decide +kernel
theorem dX3_isTelling_10 : decode cX3_isTelling 10 = .ok (.aload_n 0, 1) := by decide +kernel
theorem dX3_isTelling_11 : decode cX3_isTelling 11 = .ok (.getfield 40, 3) := by decide +kernel
theorem dX3_isTelling_14 : decode cX3_isTelling 14 = .ok (.iload_n 1, 1) := by decide +kernel
theorem dX3_isTelling_15 : decode cX3_isTelling 15 = .ok (.iaload, 1) := by decide +kernel
theorem dX3_isTelling_16 : decode cX3_isTelling 16 = .ok (.iaload, 1) := by decide +kernel
theorem dX3_isTelling_17 : decode cX3_isTelling 17 = .ok (.aload_n 0, 1) := by decide +kernel
theorem dX3_isTelling_18 : decode cX3_isTelling 18 = .ok (.getfield 43, 3) := by decide +kernel
theorem dX3_isTelling_21 : decode cX3_isTelling 21 = .ok (.iload_n 1, 1) := by decide +kernel
theorem dX3_isTelling_22 : decode cX3_isTelling 22 = .ok (.iaload, 1) := by decide +kernel
theorem dX3_isTelling_23 : decode cX3_isTelling 23 = .ok (.invokestatic 96, 3) := by decide +kernel
theorem dX3_isTelling_26 : decode cX3_isTelling 26 = .ok (.ireturn, 1) := by decide +kernel
set_option maxRecDepth 20000 in
theorem ggX3_tellingSet_X3_isTelling : GoodIn wsX3_tellingSet wsX3_isTelling := goodIn_r _ [6, 7, 8, 9, 10, 11, 12, 13, 14, 15, 16, 17, 18, 19, 20, 21, 22, 23, 24, 25, 26, 27] (by decide +kernel) (by decide +kernel)
set_option maxRecDepth 20000 in
theorem gX3_tellingSet_X3_isTelling : GoodIn wsX3_tellingSet (wsV RX3 100 RX3 yX3_isTelling wsX3_isTelling) := goodIn_app (goodIn_of _ (by decide +kernel)) ggX3_tellingSet_X3_isTelling
theorem dX3_tellingSet_0 : decode cX3_tellingSet 0 = .ok (.iconst 0, 1) := by decide +kernel
theorem dX3_tellingSet_1 : decode cX3_tellingSet 1 = .ok (.istore_n 1, 1) := by decide +kernel
theorem dX3_tellingSet_2 : decode cX3_tellingSet 2 = .ok (.iconst 0, 1) := by decide +kernel
theorem dX3_tellingSet_3 : decode cX3_tellingSet 3 = .ok (.istore_n 2, 1) := by decide +kernel
theorem dX3_tellingSet_4 : decode cX3_tellingSet 4 = .ok (.iload_n 2, 1) := by decide +kernel
theorem dX3_tellingSet_5 : decode cX3_tellingSet 5 = .ok (.aload_n 0, 1) := by decide +kernel
theorem dX3_tellingSet_6 : decode cX3_tellingSet 6 = .ok (.getfield 34, 3) := by decide +kernel
theorem dX3_tellingSet_9 : decode cX3_tellingSet 9 = .ok (.if_icmp .ge 23, 3) := by decide +kernel
theorem dX3_tellingSet_12 : decode cX3_tellingSet 12 = .ok (.aload_n 0, 1) := by decide +kernel
theorem dX3_tellingSet_13 : decode cX3_tellingSet 13 = .ok (.iload_n 2, 1) := by decide +kernel
theorem dX3_tellingSet_14 : decode cX3_tellingSet 14 = .ok (.invokevirtual 100, 3) := by decide +kernel
theorem dX3_tellingSet_17 : decode cX3_tellingSet 17 = .ok (.ifCond .eq 9, 3) := by decide +kernel
theorem dX3_tellingSet_20 : decode cX3_tellingSet 20 = .ok (.iload_n 1, 1) := by decide +kernel
theorem dX3_tellingSet_21 : decode cX3_tellingSet 21 = .ok (.iconst 1, 1) := by decide +kernel
theorem dX3_tellingSet_22 : decode cX3_tellingSet 22 = .ok (.iload_n 2, 1) := by decide +kernel
theorem dX3_tellingSet_23 : decode cX3_tellingSet 23 = .ok (.ishl, 1) := by decide +kernel
theorem dX3_tellingSet_24 : decode cX3_tellingSet 24 = .ok (.ior, 1) := by decide +kernel
theorem dX3_tellingSet_25 : decode cX3_tellingSet 25 = .ok (.istore_n 1, 1) := by decide +kernel
theorem dX3_tellingSet_26 : decode cX3_tellingSet 26 = .ok (.iinc 2 1, 3) := by decide +kernel
theorem dX3_tellingSet_29 : decode cX3_tellingSet 29 = .ok (.goto (-25), 3) := by decide +kernel
theorem dX3_tellingSet_32 : decode cX3_tellingSet 32 = .ok (.iload_n 1, 1) := by decide +kernel
theorem dX3_tellingSet_33 : decode cX3_tellingSet 33 = .ok (.ireturn, 1) := by decide +kernel
set_option maxRecDepth 20000 in
theorem ggX3_soreSet_X1_soreBelow : GoodIn wsX3_soreSet wsX1_soreBelow := goodIn_r _ [7] (by decide +kernel) (by decide +kernel)
set_option maxRecDepth 20000 in
theorem gX3_soreSet_X1_soreBelow : GoodIn wsX3_soreSet (va_wsS RX3 104 yX1_soreBelow wsX1_soreBelow) := goodIn_app (goodIn_of _ (by decide +kernel)) ggX3_soreSet_X1_soreBelow
theorem dX3_soreSet_0 : decode cX3_soreSet 0 = .ok (.iconst 0, 1) := by decide +kernel
theorem dX3_soreSet_1 : decode cX3_soreSet 1 = .ok (.istore_n 1, 1) := by decide +kernel
theorem dX3_soreSet_2 : decode cX3_soreSet 2 = .ok (.iconst 0, 1) := by decide +kernel
theorem dX3_soreSet_3 : decode cX3_soreSet 3 = .ok (.istore_n 2, 1) := by decide +kernel
theorem dX3_soreSet_4 : decode cX3_soreSet 4 = .ok (.iload_n 2, 1) := by decide +kernel
theorem dX3_soreSet_5 : decode cX3_soreSet 5 = .ok (.aload_n 0, 1) := by decide +kernel
theorem dX3_soreSet_6 : decode cX3_soreSet 6 = .ok (.getfield 34, 3) := by decide +kernel
theorem dX3_soreSet_9 : decode cX3_soreSet 9 = .ok (.if_icmp .ge 33, 3) := by decide +kernel
theorem dX3_soreSet_12 : decode cX3_soreSet 12 = .ok (.aload_n 0, 1) := by decide +kernel
theorem dX3_soreSet_13 : decode cX3_soreSet 13 = .ok (.getfield 43, 3) := by decide +kernel
theorem dX3_soreSet_16 : decode cX3_soreSet 16 = .ok (.iload_n 2, 1) := by decide +kernel
theorem dX3_soreSet_17 : decode cX3_soreSet 17 = .ok (.iaload, 1) := by decide +kernel
theorem dX3_soreSet_18 : decode cX3_soreSet 18 = .ok (.aload_n 0, 1) := by decide +kernel
theorem dX3_soreSet_19 : decode cX3_soreSet 19 = .ok (.getfield 37, 3) := by decide +kernel
theorem dX3_soreSet_22 : decode cX3_soreSet 22 = .ok (.iload_n 2, 1) := by decide +kernel
theorem dX3_soreSet_23 : decode cX3_soreSet 23 = .ok (.iaload, 1) := by decide +kernel
theorem dX3_soreSet_24 : decode cX3_soreSet 24 = .ok (.invokestatic 104, 3) := by decide +kernel
theorem dX3_soreSet_27 : decode cX3_soreSet 27 = .ok (.if_icmp .ge 9, 3) := by decide +kernel
theorem dX3_soreSet_30 : decode cX3_soreSet 30 = .ok (.iload_n 1, 1) := by decide +kernel
theorem dX3_soreSet_31 : decode cX3_soreSet 31 = .ok (.iconst 1, 1) := by decide +kernel
theorem dX3_soreSet_32 : decode cX3_soreSet 32 = .ok (.iload_n 2, 1) := by decide +kernel
theorem dX3_soreSet_33 : decode cX3_soreSet 33 = .ok (.ishl, 1) := by decide +kernel
theorem dX3_soreSet_34 : decode cX3_soreSet 34 = .ok (.ior, 1) := by decide +kernel
theorem dX3_soreSet_35 : decode cX3_soreSet 35 = .ok (.istore_n 1, 1) := by decide +kernel
theorem dX3_soreSet_36 : decode cX3_soreSet 36 = .ok (.iinc 2 1, 3) := by decide +kernel
theorem dX3_soreSet_39 : decode cX3_soreSet 39 = .ok (.goto (-35), 3) := by decide +kernel
theorem dX3_soreSet_42 : decode cX3_soreSet 42 = .ok (.iload_n 1, 1) := by decide +kernel
theorem dX3_soreSet_43 : decode cX3_soreSet 43 = .ok (.ireturn, 1) := by decide +kernel
set_option maxRecDepth 20000 in
theorem ggX3_serve_X3_findMore : GoodIn wsX3_serve wsX3_findMore := goodIn_r _ [5, 6, 7, 8, 9, 10, 11, 4, 12, 13, 14, 15, 16, 17, 18, 19, 20, 21, 22, 23, 24, 25, 26, 27, 28, 29, 30, 31, 32, 33, 34, 35, 36, 37, 38, 39, 40, 41, 42, 43, 44, 45, 46, 47, 48, 49, 50, 51, 52, 53, 87, 88, 89, 90, 91, 92, 93, 94, 95, 96, 97, 98, 99] (by decide +kernel) (by decide +kernel)
set_option maxRecDepth 20000 in
theorem gX3_serve_X3_findMore : GoodIn wsX3_serve (wsV RX3 107 RX3 yX3_findMore wsX3_findMore) := goodIn_app (goodIn_of _ (by decide +kernel)) ggX3_serve_X3_findMore
set_option maxRecDepth 20000 in
theorem ggX3_serve_X3_serveOne : GoodIn wsX3_serve wsX3_serveOne := goodIn_r _ [57, 6, 58, 7, 59, 60, 61, 62, 63, 64, 65, 66, 67, 8, 68, 69, 70, 71, 4, 72, 73, 74, 75, 76, 14, 17, 13, 77, 78, 41, 79, 80, 81, 82, 83, 84, 85, 86, 32, 33, 34, 35, 36, 37, 38, 87, 88, 89, 90, 91, 92, 93, 94, 95, 96, 97, 98, 99] (by decide +kernel) (by decide +kernel)
set_option maxRecDepth 20000 in
theorem gX3_serve_X3_serveOne : GoodIn wsX3_serve (wsV RX3 110 RX3 yX3_serveOne wsX3_serveOne) := goodIn_app (goodIn_of _ (by decide +kernel)) ggX3_serve_X3_serveOne
theorem dX3_serve_0 : decode cX3_serve 0 = .ok (.aload_n 0, 1) := by decide +kernel
theorem dX3_serve_1 : decode cX3_serve 1 = .ok (.invokevirtual 107, 3) := by decide +kernel
theorem dX3_serve_4 : decode cX3_serve 4 = .ok (.iconst 0, 1) := by decide +kernel
theorem dX3_serve_5 : decode cX3_serve 5 = .ok (.istore_n 2, 1) := by decide +kernel
theorem dX3_serve_6 : decode cX3_serve 6 = .ok (.iload_n 2, 1) := by decide +kernel
theorem dX3_serve_7 : decode cX3_serve 7 = .ok (.iload_n 1, 1) := by decide +kernel
theorem dX3_serve_8 : decode cX3_serve 8 = .ok (.if_icmp .ge 13, 3) := by decide +kernel
theorem dX3_serve_11 : decode cX3_serve 11 = .ok (.aload_n 0, 1) := by decide +kernel
theorem dX3_serve_12 : decode cX3_serve 12 = .ok (.invokevirtual 110, 3) := by decide +kernel
theorem dX3_serve_15 : decode cX3_serve 15 = .ok (.iinc 2 1, 3) := by decide +kernel
theorem dX3_serve_18 : decode cX3_serve 18 = .ok (.goto (-12), 3) := by decide +kernel
theorem dX3_serve_21 : decode cX3_serve 21 = .ok (.return_, 1) := by decide +kernel
set_option maxRecDepth 20000 in
theorem ggX3_findMore_X3_feeling : GoodIn wsX3_findMore wsX3_feeling := goodIn_r _ [8, 9, 10, 11, 12, 13, 14, 15, 16, 7, 17, 18, 19, 20, 21, 22, 23, 24, 25, 26, 27, 28, 29, 30, 31, 32, 33, 34, 35, 36, 37, 38, 50, 51, 52, 53, 54, 55, 56, 57, 58, 59, 60, 61, 62] (by decide +kernel) (by decide +kernel)
set_option maxRecDepth 20000 in
theorem gX3_findMore_X3_feeling : GoodIn wsX3_findMore (wsV RX3 113 RX3 yX3_feeling wsX3_feeling) := goodIn_app (goodIn_of _ (by decide +kernel)) ggX3_findMore_X3_feeling
set_option maxRecDepth 20000 in
theorem ggX3_findMore_X3_caught : GoodIn wsX3_findMore wsX3_caught := goodIn_r _ [42, 9, 19, 20, 7, 21, 43, 44, 45, 46, 18, 10, 11, 12, 47, 48, 37, 49, 25, 26, 27, 50, 51, 52, 53, 54, 55, 56, 57, 58, 59, 60, 61, 62] (by decide +kernel) (by decide +kernel)
set_option maxRecDepth 20000 in
theorem gX3_findMore_X3_caught : GoodIn wsX3_findMore (wsV RX3 116 RX3 yX3_caught wsX3_caught) := goodIn_app (goodIn_of _ (by decide +kernel)) ggX3_findMore_X3_caught
set_option maxRecDepth 20000 in
theorem ggX3_findMore_X3_neighbours : GoodIn wsX3_findMore wsX3_neighbours := goodIn_r _ [17, 18, 9, 19, 20, 7, 21, 22, 23, 24, 25, 26, 27, 50, 51, 52, 53, 54, 55, 56, 57, 58, 59, 60, 61, 62] (by decide +kernel) (by decide +kernel)
set_option maxRecDepth 20000 in
theorem gX3_findMore_X3_neighbours : GoodIn wsX3_findMore (wsV RX3 74 RX3 yX3_neighbours wsX3_neighbours) := goodIn_app (goodIn_of _ (by decide +kernel)) ggX3_findMore_X3_neighbours
theorem dX3_findMore_0 : decode cX3_findMore 0 = .ok (.iconst 0, 1) := by decide +kernel
theorem dX3_findMore_1 : decode cX3_findMore 1 = .ok (.istore_n 1, 1) := by decide +kernel
theorem dX3_findMore_2 : decode cX3_findMore 2 = .ok (.iload_n 1, 1) := by decide +kernel
theorem dX3_findMore_3 : decode cX3_findMore 3 = .ok (.aload_n 0, 1) := by decide +kernel
theorem dX3_findMore_4 : decode cX3_findMore 4 = .ok (.getfield 34, 3) := by decide +kernel
theorem dX3_findMore_7 : decode cX3_findMore 7 = .ok (.if_icmp .ge 37, 3) := by decide +kernel
theorem dX3_findMore_10 : decode cX3_findMore 10 = .ok (.aload_n 0, 1) := by decide +kernel
theorem dX3_findMore_11 : decode cX3_findMore 11 = .ok (.getfield 52, 3) := by decide +kernel
theorem dX3_findMore_14 : decode cX3_findMore 14 = .ok (.iload_n 1, 1) := by decide +kernel
theorem dX3_findMore_15 : decode cX3_findMore 15 = .ok (.aload_n 0, 1) := by decide +kernel
theorem dX3_findMore_16 : decode cX3_findMore 16 = .ok (.iload_n 1, 1) := by decide +kernel
theorem dX3_findMore_17 : decode cX3_findMore 17 = .ok (.invokevirtual 113, 3) := by decide +kernel
theorem dX3_findMore_20 : decode cX3_findMore 20 = .ok (.aload_n 0, 1) := by decide +kernel
theorem dX3_findMore_21 : decode cX3_findMore 21 = .ok (.iload_n 1, 1) := by decide +kernel
theorem dX3_findMore_22 : decode cX3_findMore 22 = .ok (.invokevirtual 116, 3) := by decide +kernel
theorem dX3_findMore_25 : decode cX3_findMore 25 = .ok (.iadd, 1) := by decide +kernel
theorem dX3_findMore_26 : decode cX3_findMore 26 = .ok (.iastore, 1) := by decide +kernel
theorem dX3_findMore_27 : decode cX3_findMore 27 = .ok (.aload_n 0, 1) := by decide +kernel
theorem dX3_findMore_28 : decode cX3_findMore 28 = .ok (.getfield 55, 3) := by decide +kernel
theorem dX3_findMore_31 : decode cX3_findMore 31 = .ok (.iload_n 1, 1) := by decide +kernel
theorem dX3_findMore_32 : decode cX3_findMore 32 = .ok (.aload_n 0, 1) := by decide +kernel
theorem dX3_findMore_33 : decode cX3_findMore 33 = .ok (.iload_n 1, 1) := by decide +kernel
theorem dX3_findMore_34 : decode cX3_findMore 34 = .ok (.invokevirtual 74, 3) := by decide +kernel
theorem dX3_findMore_37 : decode cX3_findMore 37 = .ok (.iastore, 1) := by decide +kernel
theorem dX3_findMore_38 : decode cX3_findMore 38 = .ok (.iinc 1 1, 3) := by decide +kernel
theorem dX3_findMore_41 : decode cX3_findMore 41 = .ok (.goto (-39), 3) := by decide +kernel
theorem dX3_findMore_44 : decode cX3_findMore 44 = .ok (.return_, 1) := by decide +kernel
set_option maxRecDepth 20000 in
theorem ggX3_serveOne_X3_tellingSet : GoodIn wsX3_serveOne wsX3_tellingSet := goodIn_r _ [19, 1, 20, 21, 22, 18, 23, 24, 25, 26, 2, 27, 28, 29, 30, 45, 46, 47, 48, 49, 50, 51, 52, 53, 54, 55, 56, 57] (by decide +kernel) (by decide +kernel)
set_option maxRecDepth 20000 in
theorem gX3_serveOne_X3_tellingSet : GoodIn wsX3_serveOne (wsV RX3 119 RX3 yX3_tellingSet wsX3_tellingSet) := goodIn_app (goodIn_of _ (by decide +kernel)) ggX3_serveOne_X3_tellingSet
set_option maxRecDepth 20000 in
theorem ggX3_serveOne_X3_soreSet : GoodIn wsX3_serveOne wsX3_soreSet := goodIn_r _ [34, 1, 2, 24, 35, 36, 29, 37, 45, 46, 47, 48, 49, 50, 51, 52, 53, 54, 55, 56, 57] (by decide +kernel) (by decide +kernel)
set_option maxRecDepth 20000 in
theorem gX3_serveOne_X3_soreSet : GoodIn wsX3_serveOne (wsV RX3 131 RX3 yX3_soreSet wsX3_soreSet) := goodIn_app (goodIn_of _ (by decide +kernel)) ggX3_serveOne_X3_soreSet
set_option maxRecDepth 20000 in
theorem ggX3_serveOne_J6_bitCount_0f7a4 : GoodIn wsX3_serveOne wsJ6_bitCount_0f7a4 := goodIn_r _ [41, 42, 43, 44] (by decide +kernel) (by decide +kernel)
set_option maxRecDepth 20000 in
theorem gX3_serveOne_J6_bitCount_0f7a4 : GoodIn wsX3_serveOne (va_wsS RX3 77 yJ6_bitCount_0f7a4 wsJ6_bitCount_0f7a4) := goodIn_app (goodIn_of _ (by decide +kernel)) ggX3_serveOne_J6_bitCount_0f7a4
theorem dX3_serveOne_0 : decode cX3_serveOne 0 = .ok (.aload_n 0, 1) := by decide +kernel
theorem dX3_serveOne_1 : decode cX3_serveOne 1 = .ok (.invokevirtual 119, 3) := by decide +kernel
theorem dX3_serveOne_4 : decode cX3_serveOne 4 = .ok (.istore_n 1, 1) := by decide +kernel
theorem dX3_serveOne_5 : decode cX3_serveOne 5 = .ok (.iconst 0, 1) := by decide +kernel
theorem dX3_serveOne_6 : decode cX3_serveOne 6 = .ok (.istore_n 2, 1) := by decide +kernel
theorem dX3_serveOne_7 : decode cX3_serveOne 7 = .ok (.iload_n 2, 1) := by decide +kernel
theorem dX3_serveOne_8 : decode cX3_serveOne 8 = .ok (.aload_n 0, 1) := by decide +kernel
theorem dX3_serveOne_9 : decode cX3_serveOne 9 = .ok (.getfield 34, 3) := by decide +kernel
theorem dX3_serveOne_12 : decode cX3_serveOne 12 = .ok (.if_icmp .ge 62, 3) := by decide +kernel
theorem dX3_serveOne_15 : decode cX3_serveOne 15 = .ok (.aload_n 0, 1) := by decide +kernel
theorem dX3_serveOne_16 : decode cX3_serveOne 16 = .ok (.getfield 43, 3) := by decide +kernel
theorem dX3_serveOne_19 : decode cX3_serveOne 19 = .ok (.iload_n 2, 1) := by decide +kernel
theorem dX3_serveOne_20 : decode cX3_serveOne 20 = .ok (.bipush (-99), 2) := by decide +kernel
theorem dX3_serveOne_22 : decode cX3_serveOne 22 = .ok (.bipush 99, 2) := by decide +kernel
theorem dX3_serveOne_24 : decode cX3_serveOne 24 = .ok (.aload_n 0, 1) := by decide +kernel
theorem dX3_serveOne_25 : decode cX3_serveOne 25 = .ok (.getfield 43, 3) := by decide +kernel
theorem dX3_serveOne_28 : decode cX3_serveOne 28 = .ok (.iload_n 2, 1) := by decide +kernel
theorem dX3_serveOne_29 : decode cX3_serveOne 29 = .ok (.iaload, 1) := by decide +kernel
theorem dX3_serveOne_30 : decode cX3_serveOne 30 = .ok (.aload_n 0, 1) := by decide +kernel
theorem dX3_serveOne_31 : decode cX3_serveOne 31 = .ok (.getfield 52, 3) := by decide +kernel
theorem dX3_serveOne_34 : decode cX3_serveOne 34 = .ok (.iload_n 2, 1) := by decide +kernel
theorem dX3_serveOne_35 : decode cX3_serveOne 35 = .ok (.iaload, 1) := by decide +kernel
theorem dX3_serveOne_36 : decode cX3_serveOne 36 = .ok (.iadd, 1) := by decide +kernel
theorem dX3_serveOne_37 : decode cX3_serveOne 37 = .ok (.invokestatic 123, 3) := by decide +kernel
theorem dX3_serveOne_40 : decode cX3_serveOne 40 = .ok (.invokestatic 128, 3) := by decide +kernel
theorem dX3_serveOne_43 : decode cX3_serveOne 43 = .ok (.iastore, 1) := by decide +kernel
theorem dX3_serveOne_44 : decode cX3_serveOne 44 = .ok (.aload_n 0, 1) := by decide +kernel
theorem dX3_serveOne_45 : decode cX3_serveOne 45 = .ok (.getfield 46, 3) := by decide +kernel
theorem dX3_serveOne_48 : decode cX3_serveOne 48 = .ok (.iload_n 2, 1) := by decide +kernel
theorem dX3_serveOne_49 : decode cX3_serveOne 49 = .ok (.sipush 9999, 3) := by decide +kernel
theorem dX3_serveOne_52 : decode cX3_serveOne 52 = .ok (.aload_n 0, 1) := by decide +kernel
theorem dX3_serveOne_53 : decode cX3_serveOne 53 = .ok (.getfield 46, 3) := by decide +kernel
theorem dX3_serveOne_56 : decode cX3_serveOne 56 = .ok (.iload_n 2, 1) := by decide +kernel
theorem dX3_serveOne_57 : decode cX3_serveOne 57 = .ok (.iaload, 1) := by decide +kernel
theorem dX3_serveOne_58 : decode cX3_serveOne 58 = .ok (.iload_n 1, 1) := by decide +kernel
theorem dX3_serveOne_59 : decode cX3_serveOne 59 = .ok (.iload_n 2, 1) := by decide +kernel
theorem dX3_serveOne_60 : decode cX3_serveOne 60 = .ok (.ishr, 1) := by decide +kernel
theorem dX3_serveOne_61 : decode cX3_serveOne 61 = .ok (.iconst 1, 1) := by decide +kernel
theorem dX3_serveOne_62 : decode cX3_serveOne 62 = .ok (.iand, 1) := by decide +kernel
theorem dX3_serveOne_63 : decode cX3_serveOne 63 = .ok (.iadd, 1) := by decide +kernel
theorem dX3_serveOne_64 : decode cX3_serveOne 64 = .ok (.invokestatic 123, 3) := by decide +kernel
theorem dX3_serveOne_67 : decode cX3_serveOne 67 = .ok (.iastore, 1) := by decide +kernel
theorem dX3_serveOne_68 : decode cX3_serveOne 68 = .ok (.iinc 2 1, 3) := by decide +kernel
theorem dX3_serveOne_71 : decode cX3_serveOne 71 = .ok (.goto (-64), 3) := by decide +kernel
theorem dX3_serveOne_74 : decode cX3_serveOne 74 = .ok (.aload_n 0, 1) := by decide +kernel
theorem dX3_serveOne_75 : decode cX3_serveOne 75 = .ok (.invokevirtual 131, 3) := by decide +kernel
theorem dX3_serveOne_78 : decode cX3_serveOne 78 = .ok (.istore_n 2, 1) := by decide +kernel
theorem dX3_serveOne_79 : decode cX3_serveOne 79 = .ok (.iconst 0, 1) := by decide +kernel
theorem dX3_serveOne_80 : decode cX3_serveOne 80 = .ok (.istore_n 3, 1) := by decide +kernel
theorem dX3_serveOne_81 : decode cX3_serveOne 81 = .ok (.iload_n 3, 1) := by decide +kernel
theorem dX3_serveOne_82 : decode cX3_serveOne 82 = .ok (.aload_n 0, 1) := by decide +kernel
theorem dX3_serveOne_83 : decode cX3_serveOne 83 = .ok (.getfield 34, 3) := by decide +kernel
theorem dX3_serveOne_86 : decode cX3_serveOne 86 = .ok (.if_icmp .ge 48, 3) := by decide +kernel
theorem dX3_serveOne_89 : decode cX3_serveOne 89 = .ok (.iload_n 2, 1) := by decide +kernel
theorem dX3_serveOne_90 : decode cX3_serveOne 90 = .ok (.iload_n 3, 1) := by decide +kernel
theorem dX3_serveOne_91 : decode cX3_serveOne 91 = .ok (.ishr, 1) := by decide +kernel
theorem dX3_serveOne_92 : decode cX3_serveOne 92 = .ok (.iconst 1, 1) := by decide +kernel
theorem dX3_serveOne_93 : decode cX3_serveOne 93 = .ok (.iand, 1) := by decide +kernel
theorem dX3_serveOne_94 : decode cX3_serveOne 94 = .ok (.iconst 1, 1) := by decide +kernel
theorem dX3_serveOne_95 : decode cX3_serveOne 95 = .ok (.if_icmp .ne 33, 3) := by decide +kernel
theorem dX3_serveOne_98 : decode cX3_serveOne 98 = .ok (.aload_n 0, 1) := by decide +kernel
theorem dX3_serveOne_99 : decode cX3_serveOne 99 = .ok (.getfield 49, 3) := by decide +kernel
theorem dX3_serveOne_102 : decode cX3_serveOne 102 = .ok (.iload_n 3, 1) := by decide +kernel
theorem dX3_serveOne_103 : decode cX3_serveOne 103 = .ok (.sipush 9999, 3) := by decide +kernel
theorem dX3_serveOne_106 : decode cX3_serveOne 106 = .ok (.aload_n 0, 1) := by decide +kernel
theorem dX3_serveOne_107 : decode cX3_serveOne 107 = .ok (.getfield 49, 3) := by decide +kernel
theorem dX3_serveOne_110 : decode cX3_serveOne 110 = .ok (.iload_n 3, 1) := by decide +kernel
theorem dX3_serveOne_111 : decode cX3_serveOne 111 = .ok (.iaload, 1) := by decide +kernel
theorem dX3_serveOne_112 : decode cX3_serveOne 112 = .ok (.aload_n 0, 1) := by decide +kernel
theorem dX3_serveOne_113 : decode cX3_serveOne 113 = .ok (.getfield 55, 3) := by decide +kernel
theorem dX3_serveOne_116 : decode cX3_serveOne 116 = .ok (.iload_n 3, 1) := by decide +kernel
theorem dX3_serveOne_117 : decode cX3_serveOne 117 = .ok (.iaload, 1) := by decide +kernel
theorem dX3_serveOne_118 : decode cX3_serveOne 118 = .ok (.iload_n 2, 1) := by decide +kernel
theorem dX3_serveOne_119 : decode cX3_serveOne 119 = .ok (.iand, 1) := by decide +kernel
theorem dX3_serveOne_120 : decode cX3_serveOne 120 = .ok (.invokestatic 77, 3) := by decide +kernel
theorem dX3_serveOne_123 : decode cX3_serveOne 123 = .ok (.iadd, 1) := by decide +kernel
theorem dX3_serveOne_124 : decode cX3_serveOne 124 = .ok (.invokestatic 123, 3) := by decide +kernel
theorem dX3_serveOne_127 : decode cX3_serveOne 127 = .ok (.iastore, 1) := by decide +kernel
theorem dX3_serveOne_128 : decode cX3_serveOne 128 = .ok (.iinc 3 1, 3) := by decide +kernel
theorem dX3_serveOne_131 : decode cX3_serveOne 131 = .ok (.goto (-50), 3) := by decide +kernel
theorem dX3_serveOne_134 : decode cX3_serveOne 134 = .ok (.aload_n 0, 1) := by decide +kernel
theorem dX3_serveOne_135 : decode cX3_serveOne 135 = .ok (.dup, 1) := by decide +kernel
theorem dX3_serveOne_136 : decode cX3_serveOne 136 = .ok (.getfield 9, 3) := by decide +kernel
theorem dX3_serveOne_139 : decode cX3_serveOne 139 = .ok (.iconst 1, 1) := by decide +kernel
theorem dX3_serveOne_140 : decode cX3_serveOne 140 = .ok (.iadd, 1) := by decide +kernel
theorem dX3_serveOne_141 : decode cX3_serveOne 141 = .ok (.putfield 9, 3) := by decide +kernel
theorem dX3_serveOne_144 : decode cX3_serveOne 144 = .ok (.return_, 1) := by decide +kernel
set_option maxRecDepth 20000 in
theorem ggX3_easeOfAll_X3_sum : GoodIn wsX3_easeOfAll wsX3_sum := goodIn_r _ [6] (by decide +kernel) (by decide +kernel)
set_option maxRecDepth 20000 in
theorem gX3_easeOfAll_X3_sum : GoodIn wsX3_easeOfAll (va_wsS RX3 134 yX3_sum wsX3_sum) := goodIn_app (goodIn_of _ (by decide +kernel)) ggX3_easeOfAll_X3_sum
theorem dX3_easeOfAll_0 : decode cX3_easeOfAll 0 = .ok (.aload_n 0, 1) := by decide +kernel
theorem dX3_easeOfAll_1 : decode cX3_easeOfAll 1 = .ok (.getfield 43, 3) := by decide +kernel
theorem dX3_easeOfAll_4 : decode cX3_easeOfAll 4 = .ok (.aload_n 0, 1) := by decide +kernel
theorem dX3_easeOfAll_5 : decode cX3_easeOfAll 5 = .ok (.getfield 34, 3) := by decide +kernel
theorem dX3_easeOfAll_8 : decode cX3_easeOfAll 8 = .ok (.invokestatic 134, 3) := by decide +kernel
theorem dX3_easeOfAll_11 : decode cX3_easeOfAll 11 = .ok (.ireturn, 1) := by decide +kernel
set_option maxRecDepth 20000 in
theorem ggX3_toldOfAll_X3_sum : GoodIn wsX3_toldOfAll wsX3_sum := goodIn_r _ [6] (by decide +kernel) (by decide +kernel)
set_option maxRecDepth 20000 in
theorem gX3_toldOfAll_X3_sum : GoodIn wsX3_toldOfAll (va_wsS RX3 134 yX3_sum wsX3_sum) := goodIn_app (goodIn_of _ (by decide +kernel)) ggX3_toldOfAll_X3_sum
theorem dX3_toldOfAll_0 : decode cX3_toldOfAll 0 = .ok (.aload_n 0, 1) := by decide +kernel
theorem dX3_toldOfAll_1 : decode cX3_toldOfAll 1 = .ok (.getfield 46, 3) := by decide +kernel
theorem dX3_toldOfAll_4 : decode cX3_toldOfAll 4 = .ok (.aload_n 0, 1) := by decide +kernel
theorem dX3_toldOfAll_5 : decode cX3_toldOfAll 5 = .ok (.getfield 34, 3) := by decide +kernel
theorem dX3_toldOfAll_8 : decode cX3_toldOfAll 8 = .ok (.invokestatic 134, 3) := by decide +kernel
theorem dX3_toldOfAll_11 : decode cX3_toldOfAll 11 = .ok (.ireturn, 1) := by decide +kernel
set_option maxRecDepth 20000 in
theorem ggX3_quarrelsOfAll_X3_sum : GoodIn wsX3_quarrelsOfAll wsX3_sum := goodIn_r _ [6] (by decide +kernel) (by decide +kernel)
set_option maxRecDepth 20000 in
theorem gX3_quarrelsOfAll_X3_sum : GoodIn wsX3_quarrelsOfAll (va_wsS RX3 134 yX3_sum wsX3_sum) := goodIn_app (goodIn_of _ (by decide +kernel)) ggX3_quarrelsOfAll_X3_sum
theorem dX3_quarrelsOfAll_0 : decode cX3_quarrelsOfAll 0 = .ok (.aload_n 0, 1) := by decide +kernel
theorem dX3_quarrelsOfAll_1 : decode cX3_quarrelsOfAll 1 = .ok (.getfield 49, 3) := by decide +kernel
theorem dX3_quarrelsOfAll_4 : decode cX3_quarrelsOfAll 4 = .ok (.aload_n 0, 1) := by decide +kernel
theorem dX3_quarrelsOfAll_5 : decode cX3_quarrelsOfAll 5 = .ok (.getfield 34, 3) := by decide +kernel
theorem dX3_quarrelsOfAll_8 : decode cX3_quarrelsOfAll 8 = .ok (.invokestatic 134, 3) := by decide +kernel
theorem dX3_quarrelsOfAll_11 : decode cX3_quarrelsOfAll 11 = .ok (.ireturn, 1) := by decide +kernel
set_option maxRecDepth 20000 in
theorem ggX3_hairsOfAll_X3_sum : GoodIn wsX3_hairsOfAll wsX3_sum := goodIn_r _ [5] (by decide +kernel) (by decide +kernel)
set_option maxRecDepth 20000 in
theorem gX3_hairsOfAll_X3_sum : GoodIn wsX3_hairsOfAll (va_wsS RX3 134 yX3_sum wsX3_sum) := goodIn_app (goodIn_of _ (by decide +kernel)) ggX3_hairsOfAll_X3_sum
theorem dX3_hairsOfAll_0 : decode cX3_hairsOfAll 0 = .ok (.aload_n 0, 1) := by decide +kernel
theorem dX3_hairsOfAll_1 : decode cX3_hairsOfAll 1 = .ok (.getfield 22, 3) := by decide +kernel
theorem dX3_hairsOfAll_4 : decode cX3_hairsOfAll 4 = .ok (.bipush 10, 2) := by decide +kernel
theorem dX3_hairsOfAll_6 : decode cX3_hairsOfAll 6 = .ok (.invokestatic 134, 3) := by decide +kernel
theorem dX3_hairsOfAll_9 : decode cX3_hairsOfAll 9 = .ok (.ireturn, 1) := by decide +kernel
theorem dX3_sum_0 : decode cX3_sum 0 = .ok (.iconst 0, 1) := by decide +kernel
theorem dX3_sum_1 : decode cX3_sum 1 = .ok (.istore_n 2, 1) := by decide +kernel
theorem dX3_sum_2 : decode cX3_sum 2 = .ok (.iconst 0, 1) := by decide +kernel
theorem dX3_sum_3 : decode cX3_sum 3 = .ok (.istore_n 3, 1) := by decide +kernel
theorem dX3_sum_4 : decode cX3_sum 4 = .ok (.iload_n 3, 1) := by decide +kernel
theorem dX3_sum_5 : decode cX3_sum 5 = .ok (.iload_n 1, 1) := by decide +kernel
theorem dX3_sum_6 : decode cX3_sum 6 = .ok (.if_icmp .ge 21, 3) := by decide +kernel
theorem dX3_sum_9 : decode cX3_sum 9 = .ok (.iload_n 3, 1) := by decide +kernel
theorem dX3_sum_10 : decode cX3_sum 10 = .ok (.aload_n 0, 1) := by decide +kernel
theorem dX3_sum_11 : decode cX3_sum 11 = .ok (.arraylength, 1) := by decide +kernel
theorem dX3_sum_12 : decode cX3_sum 12 = .ok (.if_icmp .ge 15, 3) := by decide +kernel
theorem dX3_sum_15 : decode cX3_sum 15 = .ok (.iload_n 2, 1) := by decide +kernel
theorem dX3_sum_16 : decode cX3_sum 16 = .ok (.aload_n 0, 1) := by decide +kernel
theorem dX3_sum_17 : decode cX3_sum 17 = .ok (.iload_n 3, 1) := by decide +kernel
theorem dX3_sum_18 : decode cX3_sum 18 = .ok (.iaload, 1) := by decide +kernel
theorem dX3_sum_19 : decode cX3_sum 19 = .ok (.iadd, 1) := by decide +kernel
theorem dX3_sum_20 : decode cX3_sum 20 = .ok (.istore_n 2, 1) := by decide +kernel
theorem dX3_sum_21 : decode cX3_sum 21 = .ok (.iinc 3 1, 3) := by decide +kernel
theorem dX3_sum_24 : decode cX3_sum 24 = .ok (.goto (-20), 3) := by decide +kernel
theorem dX3_sum_27 : decode cX3_sum 27 = .ok (.iload_n 2, 1) := by decide +kernel
theorem dX3_sum_28 : decode cX3_sum 28 = .ok (.ireturn, 1) := by decide +kernel
set_option maxRecDepth 20000 in
theorem ggX4_init_X4_rewind : GoodIn wsX4_init wsX4_rewind := goodIn_r _ [11, 12, 13, 14, 15, 16, 17, 18, 19, 20, 21] (by decide +kernel) (by decide +kernel)
set_option maxRecDepth 20000 in
theorem gX4_init_X4_rewind : GoodIn wsX4_init (wsV RX4 19 RX4 yX4_rewind wsX4_rewind) := goodIn_app (goodIn_of _ (by decide +kernel)) ggX4_init_X4_rewind
theorem dX4_init_0 : decode cX4_init 0 = .ok (.aload_n 0, 1) := by decide +kernel
theorem dX4_init_1 : decode cX4_init 1 = .ok (.invokespecial 3, 3) := by decide +kernel
theorem dX4_init_4 : decode cX4_init 4 = .ok (.aload_n 0, 1) := by decide +kernel
theorem dX4_init_5 : decode cX4_init 5 = .ok (.bipush 120, 2) := by decide +kernel
theorem dX4_init_7 : decode cX4_init 7 = .ok (.newarray .int, 2) := by decide +kernel
theorem dX4_init_9 : decode cX4_init 9 = .ok (.putfield 9, 3) := by decide +kernel
theorem dX4_init_12 : decode cX4_init 12 = .ok (.aload_n 0, 1) := by decide +kernel
theorem dX4_init_13 : decode cX4_init 13 = .ok (.iconst 0, 1) := by decide +kernel
theorem dX4_init_14 : decode cX4_init 14 = .ok (.putfield 15, 3) := by decide +kernel
theorem dX4_init_17 : decode cX4_init 17 = .ok (.aload_n 0, 1) := by decide +kernel
theorem dX4_init_18 : decode cX4_init 18 = .ok (.invokevirtual 19, 3) := by decide +kernel
theorem dX4_init_21 : decode cX4_init 21 = .ok (.return_, 1) := by decide +kernel
theorem dX4_append_0 : decode cX4_append 0 = .ok (.aload_n 0, 1) := by decide +kernel
theorem dX4_append_1 : decode cX4_append 1 = .ok (.getfield 15, 3) := by decide +kernel
theorem dX4_append_4 : decode cX4_append 4 = .ok (.bipush 120, 2) := by decide +kernel
theorem dX4_append_6 : decode cX4_append 6 = .ok (.if_icmp .ge 23, 3) := by decide +kernel
theorem dX4_append_9 : decode cX4_append 9 = .ok (.aload_n 0, 1) := by decide +kernel
theorem dX4_append_10 : decode cX4_append 10 = .ok (.getfield 9, 3) := by decide +kernel
theorem dX4_append_13 : decode cX4_append 13 = .ok (.aload_n 0, 1) := by decide +kernel
theorem dX4_append_14 : decode cX4_append 14 = .ok (.getfield 15, 3) := by decide +kernel
theorem dX4_append_17 : decode cX4_append 17 = .ok (.iload_n 1, 1) := by decide +kernel
theorem dX4_append_18 : decode cX4_append 18 = .ok (.iastore, 1) := by decide +kernel
theorem dX4_append_19 : decode cX4_append 19 = .ok (.aload_n 0, 1) := by decide +kernel
theorem dX4_append_20 : decode cX4_append 20 = .ok (.dup, 1) := by decide +kernel
theorem dX4_append_21 : decode cX4_append 21 = .ok (.getfield 15, 3) := by decide +kernel
theorem dX4_append_24 : decode cX4_append 24 = .ok (.iconst 1, 1) := by decide +kernel
theorem dX4_append_25 : decode cX4_append 25 = .ok (.iadd, 1) := by decide +kernel
theorem dX4_append_26 : decode cX4_append 26 = .ok (.putfield 15, 3) := by decide +kernel
theorem dX4_append_29 : decode cX4_append 29 = .ok (.return_, 1) := by decide +kernel
theorem dX4_empty_0 : decode cX4_empty 0 = .ok (.aload_n 0, 1) := by decide +kernel
theorem dX4_empty_1 : decode cX4_empty 1 = .ok (.getfield 15, 3) := by decide +kernel
theorem dX4_empty_4 : decode cX4_empty 4 = .ok (.istore_n 1, 1) := by decide +kernel
theorem dX4_empty_5 : decode cX4_empty 5 = .ok (.aload_n 0, 1) := by decide +kernel
theorem dX4_empty_6 : decode cX4_empty 6 = .ok (.iconst 0, 1) := by decide +kernel
theorem dX4_empty_7 : decode cX4_empty 7 = .ok (.putfield 15, 3) := by decide +kernel
theorem dX4_empty_10 : decode cX4_empty 10 = .ok (.iload_n 1, 1) := by decide +kernel
theorem dX4_empty_11 : decode cX4_empty 11 = .ok (.ireturn, 1) := by decide +kernel
theorem dX4_rewind_0 : decode cX4_rewind 0 = .ok (.aload_n 0, 1) := by decide +kernel
theorem dX4_rewind_1 : decode cX4_rewind 1 = .ok (.iconst 0, 1) := by decide +kernel
theorem dX4_rewind_2 : decode cX4_rewind 2 = .ok (.putfield 22, 3) := by decide +kernel
theorem dX4_rewind_5 : decode cX4_rewind 5 = .ok (.aload_n 0, 1) := by decide +kernel
theorem dX4_rewind_6 : decode cX4_rewind 6 = .ok (.iconst 0, 1) := by decide +kernel
theorem dX4_rewind_7 : decode cX4_rewind 7 = .ok (.putfield 25, 3) := by decide +kernel
theorem dX4_rewind_10 : decode cX4_rewind 10 = .ok (.aload_n 0, 1) := by decide +kernel
theorem dX4_rewind_11 : decode cX4_rewind 11 = .ok (.iconst 0, 1) := by decide +kernel
theorem dX4_rewind_12 : decode cX4_rewind 12 = .ok (.putfield 28, 3) := by decide +kernel
theorem dX4_rewind_15 : decode cX4_rewind 15 = .ok (.aload_n 0, 1) := by decide +kernel
theorem dX4_rewind_16 : decode cX4_rewind 16 = .ok (.iconst 0, 1) := by decide +kernel
theorem dX4_rewind_17 : decode cX4_rewind 17 = .ok (.putfield 31, 3) := by decide +kernel
theorem dX4_rewind_20 : decode cX4_rewind 20 = .ok (.return_, 1) := by decide +kernel
set_option maxRecDepth 20000 in
theorem ggX4_next_X4_tokenWith : GoodIn wsX4_next wsX4_tokenWith := goodIn_r _ [14] (by decide +kernel) (by decide +kernel)
set_option maxRecDepth 20000 in
theorem gX4_next_X4_tokenWith : GoodIn wsX4_next (va_wsS RX4 34 yX4_tokenWith wsX4_tokenWith) := goodIn_app (goodIn_of _ (by decide +kernel)) ggX4_next_X4_tokenWith
theorem dX4_next_0 : decode cX4_next 0 = .ok (.aload_n 0, 1) := by decide +kernel
theorem dX4_next_1 : decode cX4_next 1 = .ok (.aload_n 0, 1) := by decide +kernel
theorem dX4_next_2 : decode cX4_next 2 = .ok (.getfield 28, 3) := by decide +kernel
theorem dX4_next_5 : decode cX4_next 5 = .ok (.putfield 25, 3) := by decide +kernel
theorem dX4_next_8 : decode cX4_next 8 = .ok (.aload_n 0, 1) := by decide +kernel
theorem dX4_next_9 : decode cX4_next 9 = .ok (.getfield 25, 3) := by decide +kernel
theorem dX4_next_12 : decode cX4_next 12 = .ok (.aload_n 0, 1) := by decide +kernel
theorem dX4_next_13 : decode cX4_next 13 = .ok (.getfield 15, 3) := by decide +kernel
theorem dX4_next_16 : decode cX4_next 16 = .ok (.if_icmp .ge 30, 3) := by decide +kernel
theorem dX4_next_19 : decode cX4_next 19 = .ok (.aload_n 0, 1) := by decide +kernel
theorem dX4_next_20 : decode cX4_next 20 = .ok (.getfield 9, 3) := by decide +kernel
theorem dX4_next_23 : decode cX4_next 23 = .ok (.aload_n 0, 1) := by decide +kernel
theorem dX4_next_24 : decode cX4_next 24 = .ok (.getfield 25, 3) := by decide +kernel
theorem dX4_next_27 : decode cX4_next 27 = .ok (.iaload, 1) := by decide +kernel
theorem dX4_next_28 : decode cX4_next 28 = .ok (.bipush 32, 2) := by decide +kernel
theorem dX4_next_30 : decode cX4_next 30 = .ok (.if_icmp .ne 16, 3) := by decide +kernel
theorem dX4_next_33 : decode cX4_next 33 = .ok (.aload_n 0, 1) := by decide +kernel
theorem dX4_next_34 : decode cX4_next 34 = .ok (.dup, 1) := by decide +kernel
theorem dX4_next_35 : decode cX4_next 35 = .ok (.getfield 25, 3) := by decide +kernel
theorem dX4_next_38 : decode cX4_next 38 = .ok (.iconst 1, 1) := by decide +kernel
theorem dX4_next_39 : decode cX4_next 39 = .ok (.iadd, 1) := by decide +kernel
theorem dX4_next_40 : decode cX4_next 40 = .ok (.putfield 25, 3) := by decide +kernel
theorem dX4_next_43 : decode cX4_next 43 = .ok (.goto (-35), 3) := by decide +kernel
theorem dX4_next_46 : decode cX4_next 46 = .ok (.aload_n 0, 1) := by decide +kernel
theorem dX4_next_47 : decode cX4_next 47 = .ok (.aload_n 0, 1) := by decide +kernel
theorem dX4_next_48 : decode cX4_next 48 = .ok (.getfield 25, 3) := by decide +kernel
theorem dX4_next_51 : decode cX4_next 51 = .ok (.putfield 28, 3) := by decide +kernel
theorem dX4_next_54 : decode cX4_next 54 = .ok (.aload_n 0, 1) := by decide +kernel
theorem dX4_next_55 : decode cX4_next 55 = .ok (.iconst 0, 1) := by decide +kernel
theorem dX4_next_56 : decode cX4_next 56 = .ok (.putfield 31, 3) := by decide +kernel
theorem dX4_next_59 : decode cX4_next 59 = .ok (.aload_n 0, 1) := by decide +kernel
theorem dX4_next_60 : decode cX4_next 60 = .ok (.aload_n 0, 1) := by decide +kernel
theorem dX4_next_61 : decode cX4_next 61 = .ok (.getfield 25, 3) := by decide +kernel
theorem dX4_next_64 : decode cX4_next 64 = .ok (.aload_n 0, 1) := by decide +kernel
theorem dX4_next_65 : decode cX4_next 65 = .ok (.getfield 15, 3) := by decide +kernel
theorem dX4_next_68 : decode cX4_next 68 = .ok (.if_icmp .ge 18, 3) := by decide +kernel
theorem dX4_next_71 : decode cX4_next 71 = .ok (.aload_n 0, 1) := by decide +kernel
theorem dX4_next_72 : decode cX4_next 72 = .ok (.getfield 9, 3) := by decide +kernel
theorem dX4_next_75 : decode cX4_next 75 = .ok (.aload_n 0, 1) := by decide +kernel
theorem dX4_next_76 : decode cX4_next 76 = .ok (.getfield 25, 3) := by decide +kernel
theorem dX4_next_79 : decode cX4_next 79 = .ok (.iaload, 1) := by decide +kernel
theorem dX4_next_80 : decode cX4_next 80 = .ok (.invokestatic 34, 3) := by decide +kernel
theorem dX4_next_83 : decode cX4_next 83 = .ok (.goto 4, 3) := by decide +kernel
theorem dX4_next_86 : decode cX4_next 86 = .ok (.iconst 0, 1) := by decide +kernel
theorem dX4_next_87 : decode cX4_next 87 = .ok (.putfield 22, 3) := by decide +kernel
theorem dX4_next_90 : decode cX4_next 90 = .ok (.aload_n 0, 1) := by decide +kernel
theorem dX4_next_91 : decode cX4_next 91 = .ok (.getfield 22, 3) := by decide +kernel
theorem dX4_next_94 : decode cX4_next 94 = .ok (.iconst 3, 1) := by decide +kernel
theorem dX4_next_95 : decode cX4_next 95 = .ok (.if_icmp .eq 11, 3) := by decide +kernel
theorem dX4_next_98 : decode cX4_next 98 = .ok (.aload_n 0, 1) := by decide +kernel
theorem dX4_next_99 : decode cX4_next 99 = .ok (.getfield 22, 3) := by decide +kernel
theorem dX4_next_102 : decode cX4_next 102 = .ok (.iconst 4, 1) := by decide +kernel
theorem dX4_next_103 : decode cX4_next 103 = .ok (.if_icmp .ne 13, 3) := by decide +kernel
theorem dX4_next_106 : decode cX4_next 106 = .ok (.aload_n 0, 1) := by decide +kernel
theorem dX4_next_107 : decode cX4_next 107 = .ok (.aload_n 0, 1) := by decide +kernel
theorem dX4_next_108 : decode cX4_next 108 = .ok (.getfield 25, 3) := by decide +kernel
theorem dX4_next_111 : decode cX4_next 111 = .ok (.iconst 1, 1) := by decide +kernel
theorem dX4_next_112 : decode cX4_next 112 = .ok (.iadd, 1) := by decide +kernel
theorem dX4_next_113 : decode cX4_next 113 = .ok (.putfield 28, 3) := by decide +kernel
theorem dX4_next_116 : decode cX4_next 116 = .ok (.aload_n 0, 1) := by decide +kernel
theorem dX4_next_117 : decode cX4_next 117 = .ok (.getfield 22, 3) := by decide +kernel
theorem dX4_next_120 : decode cX4_next 120 = .ok (.iconst 1, 1) := by decide +kernel
theorem dX4_next_121 : decode cX4_next 121 = .ok (.if_icmp .eq 11, 3) := by decide +kernel
theorem dX4_next_124 : decode cX4_next 124 = .ok (.aload_n 0, 1) := by decide +kernel
theorem dX4_next_125 : decode cX4_next 125 = .ok (.getfield 22, 3) := by decide +kernel
theorem dX4_next_128 : decode cX4_next 128 = .ok (.iconst 2, 1) := by decide +kernel
theorem dX4_next_129 : decode cX4_next 129 = .ok (.if_icmp .ne 84, 3) := by decide +kernel
theorem dX4_next_132 : decode cX4_next 132 = .ok (.aload_n 0, 1) := by decide +kernel
theorem dX4_next_133 : decode cX4_next 133 = .ok (.getfield 28, 3) := by decide +kernel
theorem dX4_next_136 : decode cX4_next 136 = .ok (.aload_n 0, 1) := by decide +kernel
theorem dX4_next_137 : decode cX4_next 137 = .ok (.getfield 15, 3) := by decide +kernel
theorem dX4_next_140 : decode cX4_next 140 = .ok (.if_icmp .ge 73, 3) := by decide +kernel
theorem dX4_next_143 : decode cX4_next 143 = .ok (.aload_n 0, 1) := by decide +kernel
theorem dX4_next_144 : decode cX4_next 144 = .ok (.getfield 9, 3) := by decide +kernel
theorem dX4_next_147 : decode cX4_next 147 = .ok (.aload_n 0, 1) := by decide +kernel
theorem dX4_next_148 : decode cX4_next 148 = .ok (.getfield 28, 3) := by decide +kernel
theorem dX4_next_151 : decode cX4_next 151 = .ok (.iaload, 1) := by decide +kernel
theorem dX4_next_152 : decode cX4_next 152 = .ok (.invokestatic 34, 3) := by decide +kernel
theorem dX4_next_155 : decode cX4_next 155 = .ok (.aload_n 0, 1) := by decide +kernel
theorem dX4_next_156 : decode cX4_next 156 = .ok (.getfield 22, 3) := by decide +kernel
theorem dX4_next_159 : decode cX4_next 159 = .ok (.if_icmp .ne 54, 3) := by decide +kernel
theorem dX4_next_162 : decode cX4_next 162 = .ok (.aload_n 0, 1) := by decide +kernel
theorem dX4_next_163 : decode cX4_next 163 = .ok (.getfield 22, 3) := by decide +kernel
theorem dX4_next_166 : decode cX4_next 166 = .ok (.iconst 2, 1) := by decide +kernel
theorem dX4_next_167 : decode cX4_next 167 = .ok (.if_icmp .ne 33, 3) := by decide +kernel
theorem dX4_next_170 : decode cX4_next 170 = .ok (.aload_n 0, 1) := by decide +kernel
theorem dX4_next_171 : decode cX4_next 171 = .ok (.sipush 1000, 3) := by decide +kernel
theorem dX4_next_174 : decode cX4_next 174 = .ok (.bipush 10, 2) := by decide +kernel
theorem dX4_next_176 : decode cX4_next 176 = .ok (.aload_n 0, 1) := by decide +kernel
theorem dX4_next_177 : decode cX4_next 177 = .ok (.getfield 31, 3) := by decide +kernel
theorem dX4_next_180 : decode cX4_next 180 = .ok (.imul, 1) := by decide +kernel
theorem dX4_next_181 : decode cX4_next 181 = .ok (.aload_n 0, 1) := by decide +kernel
theorem dX4_next_182 : decode cX4_next 182 = .ok (.getfield 9, 3) := by decide +kernel
theorem dX4_next_185 : decode cX4_next 185 = .ok (.aload_n 0, 1) := by decide +kernel
theorem dX4_next_186 : decode cX4_next 186 = .ok (.getfield 28, 3) := by decide +kernel
theorem dX4_next_189 : decode cX4_next 189 = .ok (.iaload, 1) := by decide +kernel
theorem dX4_next_190 : decode cX4_next 190 = .ok (.iadd, 1) := by decide +kernel
theorem dX4_next_191 : decode cX4_next 191 = .ok (.bipush 48, 2) := by decide +kernel
theorem dX4_next_193 : decode cX4_next 193 = .ok (.isub, 1) := by decide +kernel
theorem dX4_next_194 : decode cX4_next 194 = .ok (.invokestatic 38, 3) := by decide +kernel
theorem dX4_next_197 : decode cX4_next 197 = .ok (.putfield 31, 3) := by decide +kernel
theorem dX4_next_200 : decode cX4_next 200 = .ok (.aload_n 0, 1) := by decide +kernel
theorem dX4_next_201 : decode cX4_next 201 = .ok (.dup, 1) := by decide +kernel
theorem dX4_next_202 : decode cX4_next 202 = .ok (.getfield 28, 3) := by decide +kernel
theorem dX4_next_205 : decode cX4_next 205 = .ok (.iconst 1, 1) := by decide +kernel
theorem dX4_next_206 : decode cX4_next 206 = .ok (.iadd, 1) := by decide +kernel
theorem dX4_next_207 : decode cX4_next 207 = .ok (.putfield 28, 3) := by decide +kernel
theorem dX4_next_210 : decode cX4_next 210 = .ok (.goto (-94), 3) := by decide +kernel
theorem dX4_next_213 : decode cX4_next 213 = .ok (.return_, 1) := by decide +kernel
theorem dX4_tokenWith_0 : decode cX4_tokenWith 0 = .ok (.iload_n 0, 1) := by decide +kernel
