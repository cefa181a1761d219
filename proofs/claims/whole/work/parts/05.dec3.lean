theorem dX7_close_33 : decode cX7_close 33 = .ok (.ireturn, 1) := by decide +kernel
set_option maxRecDepth 20000 in
theorem ggX7_ahead_X6_lengthOf : GoodIn wsX7_ahead wsX6_lengthOf := goodIn_r _ [8, 9, 10, 11, 12, 13, 14, 15, 16, 17] (by decide +kernel) (by decide +kernel)
set_option maxRecDepth 20000 in
theorem gX7_ahead_X6_lengthOf : GoodIn wsX7_ahead (va_wsS RX7 69 yX6_lengthOf wsX6_lengthOf) := goodIn_app (goodIn_of _ (by decide +kernel)) ggX7_ahead_X6_lengthOf
set_option maxRecDepth 20000 in
theorem ggX7_ahead_X7_beginsSo : GoodIn wsX7_ahead wsX7_beginsSo := goodIn_r _ [22, 2, 4, 1, 23, 24, 7, 25, 26, 6, 8, 9, 10, 11, 12, 13, 14, 15, 16, 17, 27, 28, 29, 30, 31, 32, 43, 44, 45, 46, 47, 48, 49, 50, 51, 52, 53, 54, 55, 56, 57, 58, 59, 60, 61] (by decide +kernel) (by decide +kernel)
set_option maxRecDepth 20000 in
theorem gX7_ahead_X7_beginsSo : GoodIn wsX7_ahead (wsV RX7 167 RX7 yX7_beginsSo wsX7_beginsSo) := goodIn_app (goodIn_of _ (by decide +kernel)) ggX7_ahead_X7_beginsSo
set_option maxRecDepth 20000 in
theorem ggX7_ahead_X0_isBefore : GoodIn wsX7_ahead wsX0_isBefore := goodIn_r _ [37, 38, 52, 53, 54, 55, 56, 57, 58, 59, 60, 61] (by decide +kernel) (by decide +kernel)
set_option maxRecDepth 20000 in
theorem gX7_ahead_X0_isBefore : GoodIn wsX7_ahead (wsV RX7 186 RX0 yX0_isBefore wsX0_isBefore) := goodIn_app (goodIn_of _ (by decide +kernel)) ggX7_ahead_X0_isBefore
set_option maxRecDepth 20000 in
theorem ggX7_ahead_X6_letterAt : GoodIn wsX7_ahead wsX6_letterAt := goodIn_r _ [41, 42] (by decide +kernel) (by decide +kernel)
set_option maxRecDepth 20000 in
theorem gX7_ahead_X6_letterAt : GoodIn wsX7_ahead (va_wsS RX7 115 yX6_letterAt wsX6_letterAt) := goodIn_app (goodIn_of _ (by decide +kernel)) ggX7_ahead_X6_letterAt
theorem dX7_ahead_0 : decode cX7_ahead 0 = .ok (.aload_n 0, 1) := by decide +kernel
theorem dX7_ahead_1 : decode cX7_ahead 1 = .ok (.getfield 37, 3) := by decide +kernel
theorem dX7_ahead_4 : decode cX7_ahead 4 = .ok (.invokestatic 69, 3) := by decide +kernel
theorem dX7_ahead_7 : decode cX7_ahead 7 = .ok (.istore_n 1, 1) := by decide +kernel
theorem dX7_ahead_8 : decode cX7_ahead 8 = .ok (.iconst (-1), 1) := by decide +kernel
theorem dX7_ahead_9 : decode cX7_ahead 9 = .ok (.istore_n 2, 1) := by decide +kernel
theorem dX7_ahead_10 : decode cX7_ahead 10 = .ok (.iconst 0, 1) := by decide +kernel
theorem dX7_ahead_11 : decode cX7_ahead 11 = .ok (.istore_n 3, 1) := by decide +kernel
theorem dX7_ahead_12 : decode cX7_ahead 12 = .ok (.iload_n 3, 1) := by decide +kernel
theorem dX7_ahead_13 : decode cX7_ahead 13 = .ok (.aload_n 0, 1) := by decide +kernel
theorem dX7_ahead_14 : decode cX7_ahead 14 = .ok (.getfield 10, 3) := by decide +kernel
theorem dX7_ahead_17 : decode cX7_ahead 17 = .ok (.getfield 139, 3) := by decide +kernel
theorem dX7_ahead_20 : decode cX7_ahead 20 = .ok (.if_icmp .ge 52, 3) := by decide +kernel
theorem dX7_ahead_23 : decode cX7_ahead 23 = .ok (.aload_n 0, 1) := by decide +kernel
theorem dX7_ahead_24 : decode cX7_ahead 24 = .ok (.iload_n 3, 1) := by decide +kernel
theorem dX7_ahead_25 : decode cX7_ahead 25 = .ok (.invokevirtual 167, 3) := by decide +kernel
theorem dX7_ahead_28 : decode cX7_ahead 28 = .ok (.ifCond .eq 38, 3) := by decide +kernel
theorem dX7_ahead_31 : decode cX7_ahead 31 = .ok (.aload_n 0, 1) := by decide +kernel
theorem dX7_ahead_32 : decode cX7_ahead 32 = .ok (.getfield 10, 3) := by decide +kernel
theorem dX7_ahead_35 : decode cX7_ahead 35 = .ok (.getfield 92, 3) := by decide +kernel
theorem dX7_ahead_38 : decode cX7_ahead 38 = .ok (.iload_n 3, 1) := by decide +kernel
theorem dX7_ahead_39 : decode cX7_ahead 39 = .ok (.laload, 1) := by decide +kernel
theorem dX7_ahead_40 : decode cX7_ahead 40 = .ok (.invokestatic 69, 3) := by decide +kernel
theorem dX7_ahead_43 : decode cX7_ahead 43 = .ok (.iload_n 1, 1) := by decide +kernel
theorem dX7_ahead_44 : decode cX7_ahead 44 = .ok (.if_icmp .le 22, 3) := by decide +kernel
theorem dX7_ahead_47 : decode cX7_ahead 47 = .ok (.iload_n 2, 1) := by decide +kernel
theorem dX7_ahead_48 : decode cX7_ahead 48 = .ok (.iconst (-1), 1) := by decide +kernel
theorem dX7_ahead_49 : decode cX7_ahead 49 = .ok (.if_icmp .eq 15, 3) := by decide +kernel
theorem dX7_ahead_52 : decode cX7_ahead 52 = .ok (.aload_n 0, 1) := by decide +kernel
theorem dX7_ahead_53 : decode cX7_ahead 53 = .ok (.getfield 10, 3) := by decide +kernel
theorem dX7_ahead_56 : decode cX7_ahead 56 = .ok (.iload_n 3, 1) := by decide +kernel
theorem dX7_ahead_57 : decode cX7_ahead 57 = .ok (.iload_n 2, 1) := by decide +kernel
theorem dX7_ahead_58 : decode cX7_ahead 58 = .ok (.invokevirtual 186, 3) := by decide +kernel
theorem dX7_ahead_61 : decode cX7_ahead 61 = .ok (.ifCond .eq 5, 3) := by decide +kernel
theorem dX7_ahead_64 : decode cX7_ahead 64 = .ok (.iload_n 3, 1) := by decide +kernel
theorem dX7_ahead_65 : decode cX7_ahead 65 = .ok (.istore_n 2, 1) := by decide +kernel
theorem dX7_ahead_66 : decode cX7_ahead 66 = .ok (.iinc 3 1, 3) := by decide +kernel
theorem dX7_ahead_69 : decode cX7_ahead 69 = .ok (.goto (-57), 3) := by decide +kernel
theorem dX7_ahead_72 : decode cX7_ahead 72 = .ok (.iload_n 2, 1) := by decide +kernel
theorem dX7_ahead_73 : decode cX7_ahead 73 = .ok (.iconst (-1), 1) := by decide +kernel
theorem dX7_ahead_74 : decode cX7_ahead 74 = .ok (.if_icmp .ne 7, 3) := by decide +kernel
theorem dX7_ahead_77 : decode cX7_ahead 77 = .ok (.iconst (-1), 1) := by decide +kernel
theorem dX7_ahead_78 : decode cX7_ahead 78 = .ok (.goto 16, 3) := by decide +kernel
theorem dX7_ahead_81 : decode cX7_ahead 81 = .ok (.aload_n 0, 1) := by decide +kernel
theorem dX7_ahead_82 : decode cX7_ahead 82 = .ok (.getfield 10, 3) := by decide +kernel
theorem dX7_ahead_85 : decode cX7_ahead 85 = .ok (.getfield 92, 3) := by decide +kernel
theorem dX7_ahead_88 : decode cX7_ahead 88 = .ok (.iload_n 2, 1) := by decide +kernel
theorem dX7_ahead_89 : decode cX7_ahead 89 = .ok (.laload, 1) := by decide +kernel
theorem dX7_ahead_90 : decode cX7_ahead 90 = .ok (.iload_n 1, 1) := by decide +kernel
theorem dX7_ahead_91 : decode cX7_ahead 91 = .ok (.invokestatic 115, 3) := by decide +kernel
theorem dX7_ahead_94 : decode cX7_ahead 94 = .ok (.ireturn, 1) := by decide +kernel
set_option maxRecDepth 20000 in
theorem ggX7_common_X7_beginsSo : GoodIn wsX7_common wsX7_beginsSo := goodIn_r _ [13, 1, 3, 8, 14, 15, 16, 17, 18, 19, 20, 21, 22, 23, 24, 25, 26, 27, 28, 29, 30, 31, 32, 33, 34, 35, 46, 47, 48, 49, 50, 51, 52, 53, 54, 55, 56, 57, 58, 59, 60, 61, 62, 63, 64] (by decide +kernel) (by decide +kernel)
set_option maxRecDepth 20000 in
theorem gX7_common_X7_beginsSo : GoodIn wsX7_common (wsV RX7 167 RX7 yX7_beginsSo wsX7_beginsSo) := goodIn_app (goodIn_of _ (by decide +kernel)) ggX7_common_X7_beginsSo
set_option maxRecDepth 20000 in
theorem ggX7_common_X6_lengthOf : GoodIn wsX7_common wsX6_lengthOf := goodIn_r _ [20, 21, 22, 23, 24, 25, 26, 27, 28, 29] (by decide +kernel) (by decide +kernel)
set_option maxRecDepth 20000 in
theorem gX7_common_X6_lengthOf : GoodIn wsX7_common (va_wsS RX7 69 yX6_lengthOf wsX6_lengthOf) := goodIn_app (goodIn_of _ (by decide +kernel)) ggX7_common_X6_lengthOf
set_option maxRecDepth 20000 in
theorem ggX7_common_X6_sameAtFirst : GoodIn wsX7_common wsX6_sameAtFirst := goodIn_r _ [39, 18, 19, 16, 20, 21, 22, 23, 24, 25, 26, 27, 28, 29, 40, 41, 42, 43, 44, 45] (by decide +kernel) (by decide +kernel)
set_option maxRecDepth 20000 in
theorem gX7_common_X6_sameAtFirst : GoodIn wsX7_common (va_wsS RX7 190 yX6_sameAtFirst wsX6_sameAtFirst) := goodIn_app (goodIn_of _ (by decide +kernel)) ggX7_common_X6_sameAtFirst
theorem dX7_common_0 : decode cX7_common 0 = .ok (.iconst (-1), 1) := by decide +kernel
theorem dX7_common_1 : decode cX7_common 1 = .ok (.istore_n 1, 1) := by decide +kernel
theorem dX7_common_2 : decode cX7_common 2 = .ok (.iconst 0, 1) := by decide +kernel
theorem dX7_common_3 : decode cX7_common 3 = .ok (.istore_n 2, 1) := by decide +kernel
theorem dX7_common_4 : decode cX7_common 4 = .ok (.iconst 0, 1) := by decide +kernel
theorem dX7_common_5 : decode cX7_common 5 = .ok (.istore_n 3, 1) := by decide +kernel
theorem dX7_common_6 : decode cX7_common 6 = .ok (.iload_n 3, 1) := by decide +kernel
theorem dX7_common_7 : decode cX7_common 7 = .ok (.aload_n 0, 1) := by decide +kernel
theorem dX7_common_8 : decode cX7_common 8 = .ok (.getfield 10, 3) := by decide +kernel
theorem dX7_common_11 : decode cX7_common 11 = .ok (.getfield 139, 3) := by decide +kernel
theorem dX7_common_14 : decode cX7_common 14 = .ok (.if_icmp .ge 66, 3) := by decide +kernel
theorem dX7_common_17 : decode cX7_common 17 = .ok (.aload_n 0, 1) := by decide +kernel
theorem dX7_common_18 : decode cX7_common 18 = .ok (.iload_n 3, 1) := by decide +kernel
theorem dX7_common_19 : decode cX7_common 19 = .ok (.invokevirtual 167, 3) := by decide +kernel
theorem dX7_common_22 : decode cX7_common 22 = .ok (.ifCond .eq 52, 3) := by decide +kernel
theorem dX7_common_25 : decode cX7_common 25 = .ok (.iload_n 1, 1) := by decide +kernel
theorem dX7_common_26 : decode cX7_common 26 = .ok (.iconst (-1), 1) := by decide +kernel
theorem dX7_common_27 : decode cX7_common 27 = .ok (.if_icmp .ne 21, 3) := by decide +kernel
theorem dX7_common_30 : decode cX7_common 30 = .ok (.iload_n 3, 1) := by decide +kernel
theorem dX7_common_31 : decode cX7_common 31 = .ok (.istore_n 1, 1) := by decide +kernel
theorem dX7_common_32 : decode cX7_common 32 = .ok (.aload_n 0, 1) := by decide +kernel
theorem dX7_common_33 : decode cX7_common 33 = .ok (.getfield 10, 3) := by decide +kernel
theorem dX7_common_36 : decode cX7_common 36 = .ok (.getfield 92, 3) := by decide +kernel
theorem dX7_common_39 : decode cX7_common 39 = .ok (.iload_n 3, 1) := by decide +kernel
theorem dX7_common_40 : decode cX7_common 40 = .ok (.laload, 1) := by decide +kernel
theorem dX7_common_41 : decode cX7_common 41 = .ok (.invokestatic 69, 3) := by decide +kernel
theorem dX7_common_44 : decode cX7_common 44 = .ok (.istore_n 2, 1) := by decide +kernel
theorem dX7_common_45 : decode cX7_common 45 = .ok (.goto 29, 3) := by decide +kernel
theorem dX7_common_48 : decode cX7_common 48 = .ok (.iload_n 2, 1) := by decide +kernel
theorem dX7_common_49 : decode cX7_common 49 = .ok (.aload_n 0, 1) := by decide +kernel
theorem dX7_common_50 : decode cX7_common 50 = .ok (.getfield 10, 3) := by decide +kernel
theorem dX7_common_53 : decode cX7_common 53 = .ok (.getfield 92, 3) := by decide +kernel
theorem dX7_common_56 : decode cX7_common 56 = .ok (.iload_n 1, 1) := by decide +kernel
theorem dX7_common_57 : decode cX7_common 57 = .ok (.laload, 1) := by decide +kernel
theorem dX7_common_58 : decode cX7_common 58 = .ok (.aload_n 0, 1) := by decide +kernel
theorem dX7_common_59 : decode cX7_common 59 = .ok (.getfield 10, 3) := by decide +kernel
theorem dX7_common_62 : decode cX7_common 62 = .ok (.getfield 92, 3) := by decide +kernel
theorem dX7_common_65 : decode cX7_common 65 = .ok (.iload_n 3, 1) := by decide +kernel
theorem dX7_common_66 : decode cX7_common 66 = .ok (.laload, 1) := by decide +kernel
theorem dX7_common_67 : decode cX7_common 67 = .ok (.invokestatic 190, 3) := by decide +kernel
theorem dX7_common_70 : decode cX7_common 70 = .ok (.invokestatic 194, 3) := by decide +kernel
theorem dX7_common_73 : decode cX7_common 73 = .ok (.istore_n 2, 1) := by decide +kernel
theorem dX7_common_74 : decode cX7_common 74 = .ok (.iinc 3 1, 3) := by decide +kernel
theorem dX7_common_77 : decode cX7_common 77 = .ok (.goto (-71), 3) := by decide +kernel
theorem dX7_common_80 : decode cX7_common 80 = .ok (.iload_n 1, 1) := by decide +kernel
theorem dX7_common_81 : decode cX7_common 81 = .ok (.iconst (-1), 1) := by decide +kernel
theorem dX7_common_82 : decode cX7_common 82 = .ok (.if_icmp .ne 7, 3) := by decide +kernel
theorem dX7_common_85 : decode cX7_common 85 = .ok (.iconst (-1), 1) := by decide +kernel
theorem dX7_common_86 : decode cX7_common 86 = .ok (.goto 12, 3) := by decide +kernel
theorem dX7_common_89 : decode cX7_common 89 = .ok (.iload_n 2, 1) := by decide +kernel
theorem dX7_common_90 : decode cX7_common 90 = .ok (.aload_n 0, 1) := by decide +kernel
theorem dX7_common_91 : decode cX7_common 91 = .ok (.getfield 37, 3) := by decide +kernel
theorem dX7_common_94 : decode cX7_common 94 = .ok (.invokestatic 69, 3) := by decide +kernel
theorem dX7_common_97 : decode cX7_common 97 = .ok (.isub, 1) := by decide +kernel
theorem dX7_common_98 : decode cX7_common 98 = .ok (.ireturn, 1) := by decide +kernel
set_option maxRecDepth 20000 in
theorem ggX7_find_X0_slotSpelled : GoodIn wsX7_find wsX0_slotSpelled := goodIn_r _ [8, 9, 10, 20, 21, 22, 23, 24, 25, 26, 27, 28, 29] (by decide +kernel) (by decide +kernel)
set_option maxRecDepth 20000 in
theorem gX7_find_X0_slotSpelled : GoodIn wsX7_find (wsV RX7 96 RX0 yX0_slotSpelled wsX0_slotSpelled) := goodIn_app (goodIn_of _ (by decide +kernel)) ggX7_find_X0_slotSpelled
theorem dX7_find_0 : decode cX7_find 0 = .ok (.aload_n 0, 1) := by decide +kernel
theorem dX7_find_1 : decode cX7_find 1 = .ok (.getfield 10, 3) := by decide +kernel
theorem dX7_find_4 : decode cX7_find 4 = .ok (.aload_n 0, 1) := by decide +kernel
theorem dX7_find_5 : decode cX7_find 5 = .ok (.getfield 37, 3) := by decide +kernel
theorem dX7_find_8 : decode cX7_find 8 = .ok (.invokevirtual 96, 3) := by decide +kernel
theorem dX7_find_11 : decode cX7_find 11 = .ok (.istore_n 1, 1) := by decide +kernel
theorem dX7_find_12 : decode cX7_find 12 = .ok (.iload_n 1, 1) := by decide +kernel
theorem dX7_find_13 : decode cX7_find 13 = .ok (.iconst (-1), 1) := by decide +kernel
theorem dX7_find_14 : decode cX7_find 14 = .ok (.if_icmp .ne 7, 3) := by decide +kernel
theorem dX7_find_17 : decode cX7_find 17 = .ok (.iconst (-1), 1) := by decide +kernel
theorem dX7_find_18 : decode cX7_find 18 = .ok (.goto 12, 3) := by decide +kernel
theorem dX7_find_21 : decode cX7_find 21 = .ok (.aload_n 0, 1) := by decide +kernel
theorem dX7_find_22 : decode cX7_find 22 = .ok (.getfield 10, 3) := by decide +kernel
theorem dX7_find_25 : decode cX7_find 25 = .ok (.getfield 197, 3) := by decide +kernel
theorem dX7_find_28 : decode cX7_find 28 = .ok (.iload_n 1, 1) := by decide +kernel
theorem dX7_find_29 : decode cX7_find 29 = .ok (.iaload, 1) := by decide +kernel
theorem dX7_find_30 : decode cX7_find 30 = .ok (.ireturn, 1) := by decide +kernel
set_option maxRecDepth 20000 in
theorem ggX7_keys_X0_slotOf : GoodIn wsX7_keys wsX0_slotOf := goodIn_r _ [6, 7, 8, 62, 63, 64, 65, 66, 67, 68, 69, 70, 71] (by decide +kernel) (by decide +kernel)
set_option maxRecDepth 20000 in
theorem gX7_keys_X0_slotOf : GoodIn wsX7_keys (wsV RX7 88 RX0 yX0_slotOf wsX0_slotOf) := goodIn_app (goodIn_of _ (by decide +kernel)) ggX7_keys_X0_slotOf
set_option maxRecDepth 20000 in
theorem ggX7_keys_X7_refuseBad : GoodIn wsX7_keys wsX7_refuseBad := goodIn_r _ [13, 14, 53, 54, 55, 56, 57, 58, 59, 60, 61] (by decide +kernel) (by decide +kernel)
set_option maxRecDepth 20000 in
theorem gX7_keys_X7_refuseBad : GoodIn wsX7_keys (wsV RX7 65 RX7 yX7_refuseBad wsX7_refuseBad) := goodIn_app (goodIn_of _ (by decide +kernel)) ggX7_keys_X7_refuseBad
set_option maxRecDepth 20000 in
theorem ggX7_keys_X7_lettersTillFirst : GoodIn wsX7_keys wsX7_lettersTillFirst := goodIn_r _ [18, 1, 19, 20, 21, 22, 23, 24, 25, 26, 27, 5, 28, 29, 30, 31, 32, 33, 34, 35, 36, 37, 38, 39, 40, 41, 42, 43, 44, 45, 46, 47, 48, 49, 50, 51, 52, 53, 54, 55, 56, 57, 58, 59, 60, 61, 62, 63, 64, 65, 66, 67, 68, 69, 70, 71] (by decide +kernel) (by decide +kernel)
set_option maxRecDepth 20000 in
theorem gX7_keys_X7_lettersTillFirst : GoodIn wsX7_keys (wsV RX7 200 RX7 yX7_lettersTillFirst wsX7_lettersTillFirst) := goodIn_app (goodIn_of _ (by decide +kernel)) ggX7_keys_X7_lettersTillFirst
theorem dX7_keys_0 : decode cX7_keys 0 = .ok (.aload_n 0, 1) := by decide +kernel
theorem dX7_keys_1 : decode cX7_keys 1 = .ok (.getfield 10, 3) := by decide +kernel
theorem dX7_keys_4 : decode cX7_keys 4 = .ok (.iload_n 1, 1) := by decide +kernel
theorem dX7_keys_5 : decode cX7_keys 5 = .ok (.invokevirtual 88, 3) := by decide +kernel
theorem dX7_keys_8 : decode cX7_keys 8 = .ok (.istore_n 2, 1) := by decide +kernel
theorem dX7_keys_9 : decode cX7_keys 9 = .ok (.iload_n 2, 1) := by decide +kernel
theorem dX7_keys_10 : decode cX7_keys 10 = .ok (.iconst (-1), 1) := by decide +kernel
theorem dX7_keys_11 : decode cX7_keys 11 = .ok (.if_icmp .ne 10, 3) := by decide +kernel
theorem dX7_keys_14 : decode cX7_keys 14 = .ok (.aload_n 0, 1) := by decide +kernel
theorem dX7_keys_15 : decode cX7_keys 15 = .ok (.invokevirtual 65, 3) := by decide +kernel
theorem dX7_keys_18 : decode cX7_keys 18 = .ok (.goto 8, 3) := by decide +kernel
theorem dX7_keys_21 : decode cX7_keys 21 = .ok (.aload_n 0, 1) := by decide +kernel
theorem dX7_keys_22 : decode cX7_keys 22 = .ok (.iload_n 2, 1) := by decide +kernel
theorem dX7_keys_23 : decode cX7_keys 23 = .ok (.invokevirtual 200, 3) := by decide +kernel
theorem dX7_keys_26 : decode cX7_keys 26 = .ok (.ireturn, 1) := by decide +kernel
set_option maxRecDepth 20000 in
theorem ggX7_saved_X7_lettersTillFirst : GoodIn wsX7_saved wsX7_lettersTillFirst := goodIn_r _ [8, 1, 2, 3, 9, 10, 11, 12, 13, 14, 15, 16, 17, 18, 19, 20, 21, 22, 23, 24, 25, 26, 27, 28, 29, 30, 31, 32, 33, 34, 35, 36, 37, 38, 39, 40, 41, 42, 43, 44, 45, 46, 47, 48, 49, 50, 51, 52, 53, 54, 55, 56, 57, 58, 59, 60] (by decide +kernel) (by decide +kernel)
set_option maxRecDepth 20000 in
theorem gX7_saved_X7_lettersTillFirst : GoodIn wsX7_saved (wsV RX7 200 RX7 yX7_lettersTillFirst wsX7_lettersTillFirst) := goodIn_app (goodIn_of _ (by decide +kernel)) ggX7_saved_X7_lettersTillFirst
set_option maxRecDepth 20000 in
theorem ggX7_saved_X6_lengthOf : GoodIn wsX7_saved wsX6_lengthOf := goodIn_r _ [25, 26, 27, 28, 29, 30, 31, 32, 33, 34] (by decide +kernel) (by decide +kernel)
set_option maxRecDepth 20000 in
theorem gX7_saved_X6_lengthOf : GoodIn wsX7_saved (va_wsS RX7 69 yX6_lengthOf wsX6_lengthOf) := goodIn_app (goodIn_of _ (by decide +kernel)) ggX7_saved_X6_lengthOf
theorem dX7_saved_0 : decode cX7_saved 0 = .ok (.iconst 0, 1) := by decide +kernel
theorem dX7_saved_1 : decode cX7_saved 1 = .ok (.istore_n 1, 1) := by decide +kernel
theorem dX7_saved_2 : decode cX7_saved 2 = .ok (.iconst 0, 1) := by decide +kernel
theorem dX7_saved_3 : decode cX7_saved 3 = .ok (.istore_n 2, 1) := by decide +kernel
theorem dX7_saved_4 : decode cX7_saved 4 = .ok (.iload_n 2, 1) := by decide +kernel
theorem dX7_saved_5 : decode cX7_saved 5 = .ok (.aload_n 0, 1) := by decide +kernel
theorem dX7_saved_6 : decode cX7_saved 6 = .ok (.getfield 10, 3) := by decide +kernel
theorem dX7_saved_9 : decode cX7_saved 9 = .ok (.getfield 139, 3) := by decide +kernel
theorem dX7_saved_12 : decode cX7_saved 12 = .ok (.if_icmp .ge 37, 3) := by decide +kernel
theorem dX7_saved_15 : decode cX7_saved 15 = .ok (.aload_n 0, 1) := by decide +kernel
theorem dX7_saved_16 : decode cX7_saved 16 = .ok (.iload_n 2, 1) := by decide +kernel
theorem dX7_saved_17 : decode cX7_saved 17 = .ok (.invokevirtual 200, 3) := by decide +kernel
theorem dX7_saved_20 : decode cX7_saved 20 = .ok (.istore_n 3, 1) := by decide +kernel
theorem dX7_saved_21 : decode cX7_saved 21 = .ok (.iload_n 3, 1) := by decide +kernel
theorem dX7_saved_22 : decode cX7_saved 22 = .ok (.iconst (-1), 1) := by decide +kernel
theorem dX7_saved_23 : decode cX7_saved 23 = .ok (.if_icmp .eq 20, 3) := by decide +kernel
theorem dX7_saved_26 : decode cX7_saved 26 = .ok (.iload_n 1, 1) := by decide +kernel
theorem dX7_saved_27 : decode cX7_saved 27 = .ok (.aload_n 0, 1) := by decide +kernel
theorem dX7_saved_28 : decode cX7_saved 28 = .ok (.getfield 10, 3) := by decide +kernel
theorem dX7_saved_31 : decode cX7_saved 31 = .ok (.getfield 92, 3) := by decide +kernel
theorem dX7_saved_34 : decode cX7_saved 34 = .ok (.iload_n 2, 1) := by decide +kernel
theorem dX7_saved_35 : decode cX7_saved 35 = .ok (.laload, 1) := by decide +kernel
theorem dX7_saved_36 : decode cX7_saved 36 = .ok (.invokestatic 69, 3) := by decide +kernel
theorem dX7_saved_39 : decode cX7_saved 39 = .ok (.iload_n 3, 1) := by decide +kernel
theorem dX7_saved_40 : decode cX7_saved 40 = .ok (.isub, 1) := by decide +kernel
theorem dX7_saved_41 : decode cX7_saved 41 = .ok (.iadd, 1) := by decide +kernel
theorem dX7_saved_42 : decode cX7_saved 42 = .ok (.istore_n 1, 1) := by decide +kernel
theorem dX7_saved_43 : decode cX7_saved 43 = .ok (.iinc 2 1, 3) := by decide +kernel
theorem dX7_saved_46 : decode cX7_saved 46 = .ok (.goto (-42), 3) := by decide +kernel
theorem dX7_saved_49 : decode cX7_saved 49 = .ok (.iload_n 1, 1) := by decide +kernel
theorem dX7_saved_50 : decode cX7_saved 50 = .ok (.ireturn, 1) := by decide +kernel
set_option maxRecDepth 20000 in
theorem ggX7_twins_X0_slotOf : GoodIn wsX7_twins wsX0_slotOf := goodIn_r _ [8, 9, 10, 26, 27, 28, 29, 30, 31, 32, 33, 34, 35] (by decide +kernel) (by decide +kernel)
set_option maxRecDepth 20000 in
theorem gX7_twins_X0_slotOf : GoodIn wsX7_twins (wsV RX7 88 RX0 yX0_slotOf wsX0_slotOf) := goodIn_app (goodIn_of _ (by decide +kernel)) ggX7_twins_X0_slotOf
set_option maxRecDepth 20000 in
theorem ggX7_twins_X7_refuseBad : GoodIn wsX7_twins wsX7_refuseBad := goodIn_r _ [15, 16, 17, 18, 19, 20, 21, 22, 23, 24, 25] (by decide +kernel) (by decide +kernel)
set_option maxRecDepth 20000 in
theorem gX7_twins_X7_refuseBad : GoodIn wsX7_twins (wsV RX7 65 RX7 yX7_refuseBad wsX7_refuseBad) := goodIn_app (goodIn_of _ (by decide +kernel)) ggX7_twins_X7_refuseBad
theorem dX7_twins_0 : decode cX7_twins 0 = .ok (.aload_n 0, 1) := by decide +kernel
theorem dX7_twins_1 : decode cX7_twins 1 = .ok (.getfield 10, 3) := by decide +kernel
theorem dX7_twins_4 : decode cX7_twins 4 = .ok (.iload_n 1, 1) := by decide +kernel
theorem dX7_twins_5 : decode cX7_twins 5 = .ok (.invokevirtual 88, 3) := by decide +kernel
theorem dX7_twins_8 : decode cX7_twins 8 = .ok (.istore_n 2, 1) := by decide +kernel
theorem dX7_twins_9 : decode cX7_twins 9 = .ok (.iload_n 2, 1) := by decide +kernel
theorem dX7_twins_10 : decode cX7_twins 10 = .ok (.iconst (-1), 1) := by decide +kernel
theorem dX7_twins_11 : decode cX7_twins 11 = .ok (.if_icmp .ne 8, 3) := by decide +kernel
theorem dX7_twins_14 : decode cX7_twins 14 = .ok (.aload_n 0, 1) := by decide +kernel
theorem dX7_twins_15 : decode cX7_twins 15 = .ok (.invokevirtual 65, 3) := by decide +kernel
theorem dX7_twins_18 : decode cX7_twins 18 = .ok (.ireturn, 1) := by decide +kernel
theorem dX7_twins_19 : decode cX7_twins 19 = .ok (.aload_n 0, 1) := by decide +kernel
theorem dX7_twins_20 : decode cX7_twins 20 = .ok (.getfield 10, 3) := by decide +kernel
theorem dX7_twins_23 : decode cX7_twins 23 = .ok (.getfield 203, 3) := by decide +kernel
theorem dX7_twins_26 : decode cX7_twins 26 = .ok (.iload_n 2, 1) := by decide +kernel
theorem dX7_twins_27 : decode cX7_twins 27 = .ok (.iaload, 1) := by decide +kernel
theorem dX7_twins_28 : decode cX7_twins 28 = .ok (.istore_n 3, 1) := by decide +kernel
theorem dX7_twins_29 : decode cX7_twins 29 = .ok (.iconst 0, 1) := by decide +kernel
theorem dX7_twins_30 : decode cX7_twins 30 = .ok (.istore 4, 2) := by decide +kernel
theorem dX7_twins_32 : decode cX7_twins 32 = .ok (.iconst 0, 1) := by decide +kernel
theorem dX7_twins_33 : decode cX7_twins 33 = .ok (.istore 5, 2) := by decide +kernel
theorem dX7_twins_35 : decode cX7_twins 35 = .ok (.iload 5, 2) := by decide +kernel
theorem dX7_twins_37 : decode cX7_twins 37 = .ok (.aload_n 0, 1) := by decide +kernel
theorem dX7_twins_38 : decode cX7_twins 38 = .ok (.getfield 10, 3) := by decide +kernel
theorem dX7_twins_41 : decode cX7_twins 41 = .ok (.getfield 139, 3) := by decide +kernel
theorem dX7_twins_44 : decode cX7_twins 44 = .ok (.if_icmp .ge 36, 3) := by decide +kernel
theorem dX7_twins_47 : decode cX7_twins 47 = .ok (.iload_n 3, 1) := by decide +kernel
theorem dX7_twins_48 : decode cX7_twins 48 = .ok (.ifCond .eq 26, 3) := by decide +kernel
theorem dX7_twins_51 : decode cX7_twins 51 = .ok (.iload 5, 2) := by decide +kernel
theorem dX7_twins_53 : decode cX7_twins 53 = .ok (.iload_n 2, 1) := by decide +kernel
theorem dX7_twins_54 : decode cX7_twins 54 = .ok (.if_icmp .eq 20, 3) := by decide +kernel
theorem dX7_twins_57 : decode cX7_twins 57 = .ok (.aload_n 0, 1) := by decide +kernel
theorem dX7_twins_58 : decode cX7_twins 58 = .ok (.getfield 10, 3) := by decide +kernel
theorem dX7_twins_61 : decode cX7_twins 61 = .ok (.getfield 203, 3) := by decide +kernel
theorem dX7_twins_64 : decode cX7_twins 64 = .ok (.iload 5, 2) := by decide +kernel
theorem dX7_twins_66 : decode cX7_twins 66 = .ok (.iaload, 1) := by decide +kernel
theorem dX7_twins_67 : decode cX7_twins 67 = .ok (.iload_n 3, 1) := by decide +kernel
theorem dX7_twins_68 : decode cX7_twins 68 = .ok (.if_icmp .ne 6, 3) := by decide +kernel
theorem dX7_twins_71 : decode cX7_twins 71 = .ok (.iinc 4 1, 3) := by decide +kernel
theorem dX7_twins_74 : decode cX7_twins 74 = .ok (.iinc 5 1, 3) := by decide +kernel
theorem dX7_twins_77 : decode cX7_twins 77 = .ok (.goto (-42), 3) := by decide +kernel
theorem dX7_twins_80 : decode cX7_twins 80 = .ok (.iload 4, 2) := by decide +kernel
theorem dX7_twins_82 : decode cX7_twins 82 = .ok (.ireturn, 1) := by decide +kernel
set_option maxRecDepth 20000 in
theorem ggX7_alike_X0_slotOf : GoodIn wsX7_alike wsX0_slotOf := goodIn_r _ [7, 8, 9, 47, 48, 49, 50, 51, 52, 53, 54, 55, 56] (by decide +kernel) (by decide +kernel)
set_option maxRecDepth 20000 in
theorem gX7_alike_X0_slotOf : GoodIn wsX7_alike (wsV RX7 88 RX0 yX0_slotOf wsX0_slotOf) := goodIn_app (goodIn_of _ (by decide +kernel)) ggX7_alike_X0_slotOf
set_option maxRecDepth 20000 in
theorem ggX7_alike_X7_refuseBad : GoodIn wsX7_alike wsX7_refuseBad := goodIn_r _ [14, 15, 38, 39, 40, 41, 42, 43, 44, 45, 46] (by decide +kernel) (by decide +kernel)
set_option maxRecDepth 20000 in
theorem gX7_alike_X7_refuseBad : GoodIn wsX7_alike (wsV RX7 65 RX7 yX7_refuseBad wsX7_refuseBad) := goodIn_app (goodIn_of _ (by decide +kernel)) ggX7_alike_X7_refuseBad
set_option maxRecDepth 20000 in
theorem ggX7_alike_X6_sameAtFirst : GoodIn wsX7_alike wsX6_sameAtFirst := goodIn_r _ [19, 20, 21, 18, 22, 23, 24, 25, 26, 27, 28, 29, 30, 31, 32, 33, 34, 35, 36, 37] (by decide +kernel) (by decide +kernel)
set_option maxRecDepth 20000 in
theorem gX7_alike_X6_sameAtFirst : GoodIn wsX7_alike (va_wsS RX7 190 yX6_sameAtFirst wsX6_sameAtFirst) := goodIn_app (goodIn_of _ (by decide +kernel)) ggX7_alike_X6_sameAtFirst
theorem dX7_alike_0 : decode cX7_alike 0 = .ok (.aload_n 0, 1) := by decide +kernel
theorem dX7_alike_1 : decode cX7_alike 1 = .ok (.getfield 10, 3) := by decide +kernel
theorem dX7_alike_4 : decode cX7_alike 4 = .ok (.iload_n 1, 1) := by decide +kernel
theorem dX7_alike_5 : decode cX7_alike 5 = .ok (.invokevirtual 88, 3) := by decide +kernel
theorem dX7_alike_8 : decode cX7_alike 8 = .ok (.istore_n 3, 1) := by decide +kernel
theorem dX7_alike_9 : decode cX7_alike 9 = .ok (.aload_n 0, 1) := by decide +kernel
theorem dX7_alike_10 : decode cX7_alike 10 = .ok (.getfield 10, 3) := by decide +kernel
theorem dX7_alike_13 : decode cX7_alike 13 = .ok (.iload_n 2, 1) := by decide +kernel
theorem dX7_alike_14 : decode cX7_alike 14 = .ok (.invokevirtual 88, 3) := by decide +kernel
theorem dX7_alike_17 : decode cX7_alike 17 = .ok (.istore 4, 2) := by decide +kernel
theorem dX7_alike_19 : decode cX7_alike 19 = .ok (.iload_n 3, 1) := by decide +kernel
theorem dX7_alike_20 : decode cX7_alike 20 = .ok (.iconst (-1), 1) := by decide +kernel
theorem dX7_alike_21 : decode cX7_alike 21 = .ok (.if_icmp .eq 9, 3) := by decide +kernel
theorem dX7_alike_24 : decode cX7_alike 24 = .ok (.iload 4, 2) := by decide +kernel
theorem dX7_alike_26 : decode cX7_alike 26 = .ok (.iconst (-1), 1) := by decide +kernel
theorem dX7_alike_27 : decode cX7_alike 27 = .ok (.if_icmp .ne 8, 3) := by decide +kernel
theorem dX7_alike_30 : decode cX7_alike 30 = .ok (.aload_n 0, 1) := by decide +kernel
theorem dX7_alike_31 : decode cX7_alike 31 = .ok (.invokevirtual 65, 3) := by decide +kernel
theorem dX7_alike_34 : decode cX7_alike 34 = .ok (.ireturn, 1) := by decide +kernel
theorem dX7_alike_35 : decode cX7_alike 35 = .ok (.aload_n 0, 1) := by decide +kernel
theorem dX7_alike_36 : decode cX7_alike 36 = .ok (.getfield 10, 3) := by decide +kernel
theorem dX7_alike_39 : decode cX7_alike 39 = .ok (.getfield 92, 3) := by decide +kernel
theorem dX7_alike_42 : decode cX7_alike 42 = .ok (.iload_n 3, 1) := by decide +kernel
theorem dX7_alike_43 : decode cX7_alike 43 = .ok (.laload, 1) := by decide +kernel
theorem dX7_alike_44 : decode cX7_alike 44 = .ok (.aload_n 0, 1) := by decide +kernel
theorem dX7_alike_45 : decode cX7_alike 45 = .ok (.getfield 10, 3) := by decide +kernel
theorem dX7_alike_48 : decode cX7_alike 48 = .ok (.getfield 92, 3) := by decide +kernel
theorem dX7_alike_51 : decode cX7_alike 51 = .ok (.iload 4, 2) := by decide +kernel
theorem dX7_alike_53 : decode cX7_alike 53 = .ok (.laload, 1) := by decide +kernel
theorem dX7_alike_54 : decode cX7_alike 54 = .ok (.invokestatic 190, 3) := by decide +kernel
theorem dX7_alike_57 : decode cX7_alike 57 = .ok (.ireturn, 1) := by decide +kernel
set_option maxRecDepth 20000 in
theorem ggX7_write_X7_isWithin : GoodIn wsX7_write wsX7_isWithin := goodIn_r _ [6] (by decide +kernel) (by decide +kernel)
set_option maxRecDepth 20000 in
theorem gX7_write_X7_isWithin : GoodIn wsX7_write (va_wsS RX7 61 yX7_isWithin wsX7_isWithin) := goodIn_app (goodIn_of _ (by decide +kernel)) ggX7_write_X7_isWithin
set_option maxRecDepth 20000 in
theorem ggX7_write_X7_refuseBad : GoodIn wsX7_write wsX7_refuseBad := goodIn_r _ [10, 11, 24, 25, 26, 27, 28, 29, 30, 31, 32] (by decide +kernel) (by decide +kernel)
set_option maxRecDepth 20000 in
theorem gX7_write_X7_refuseBad : GoodIn wsX7_write (wsV RX7 65 RX7 yX7_refuseBad wsX7_refuseBad) := goodIn_app (goodIn_of _ (by decide +kernel)) ggX7_write_X7_refuseBad
set_option maxRecDepth 20000 in
theorem ggX7_write_X3_append : GoodIn wsX7_write wsX3_append := goodIn_r _ [16, 17, 18, 33, 34, 35, 36, 37, 38, 39, 40, 41] (by decide +kernel) (by decide +kernel)
set_option maxRecDepth 20000 in
theorem gX7_write_X3_append : GoodIn wsX7_write (wsV RX7 206 RX3 yX3_append wsX3_append) := goodIn_app (goodIn_of _ (by decide +kernel)) ggX7_write_X3_append
set_option maxRecDepth 20000 in
theorem ggX7_write_X7_refuseFull : GoodIn wsX7_write wsX7_refuseFull := goodIn_r _ [22, 23, 24, 25, 26, 27, 28, 29, 30, 31, 32] (by decide +kernel) (by decide +kernel)
set_option maxRecDepth 20000 in
theorem gX7_write_X7_refuseFull : GoodIn wsX7_write (wsV RX7 75 RX7 yX7_refuseFull wsX7_refuseFull) := goodIn_app (goodIn_of _ (by decide +kernel)) ggX7_write_X7_refuseFull
theorem dX7_write_0 : decode cX7_write 0 = .ok (.iload_n 1, 1) := by decide +kernel
theorem dX7_write_1 : decode cX7_write 1 = .ok (.iconst 0, 1) := by decide +kernel
theorem dX7_write_2 : decode cX7_write 2 = .ok (.bipush 127, 2) := by decide +kernel
theorem dX7_write_4 : decode cX7_write 4 = .ok (.invokestatic 61, 3) := by decide +kernel
theorem dX7_write_7 : decode cX7_write 7 = .ok (.ifCond .ne 8, 3) := by decide +kernel
theorem dX7_write_10 : decode cX7_write 10 = .ok (.aload_n 0, 1) := by decide +kernel
theorem dX7_write_11 : decode cX7_write 11 = .ok (.invokevirtual 65, 3) := by decide +kernel
theorem dX7_write_14 : decode cX7_write 14 = .ok (.ireturn, 1) := by decide +kernel
theorem dX7_write_15 : decode cX7_write 15 = .ok (.aload_n 0, 1) := by decide +kernel
theorem dX7_write_16 : decode cX7_write 16 = .ok (.getfield 33, 3) := by decide +kernel
theorem dX7_write_19 : decode cX7_write 19 = .ok (.iload_n 1, 1) := by decide +kernel
theorem dX7_write_20 : decode cX7_write 20 = .ok (.invokevirtual 206, 3) := by decide +kernel
theorem dX7_write_23 : decode cX7_write 23 = .ok (.ifCond .ne 8, 3) := by decide +kernel
theorem dX7_write_26 : decode cX7_write 26 = .ok (.aload_n 0, 1) := by decide +kernel
theorem dX7_write_27 : decode cX7_write 27 = .ok (.invokevirtual 75, 3) := by decide +kernel
theorem dX7_write_30 : decode cX7_write 30 = .ok (.ireturn, 1) := by decide +kernel
theorem dX7_write_31 : decode cX7_write 31 = .ok (.aload_n 0, 1) := by decide +kernel
theorem dX7_write_32 : decode cX7_write 32 = .ok (.getfield 33, 3) := by decide +kernel
theorem dX7_write_35 : decode cX7_write 35 = .ok (.getfield 208, 3) := by decide +kernel
theorem dX7_write_38 : decode cX7_write 38 = .ok (.ireturn, 1) := by decide +kernel
set_option maxRecDepth 20000 in
theorem ggX7_erase_X3_makeEmpty : GoodIn wsX7_erase wsX3_makeEmpty := goodIn_r _ [7, 8, 18, 19, 20, 21, 22, 23, 24, 25, 26] (by decide +kernel) (by decide +kernel)
set_option maxRecDepth 20000 in
theorem gX7_erase_X3_makeEmpty : GoodIn wsX7_erase (wsV RX7 60 RX3 yX3_makeEmpty wsX3_makeEmpty) := goodIn_app (goodIn_of _ (by decide +kernel)) ggX7_erase_X3_makeEmpty
theorem dX7_erase_0 : decode cX7_erase 0 = .ok (.aload_n 0, 1) := by decide +kernel
theorem dX7_erase_1 : decode cX7_erase 1 = .ok (.getfield 33, 3) := by decide +kernel
theorem dX7_erase_4 : decode cX7_erase 4 = .ok (.getfield 208, 3) := by decide +kernel
theorem dX7_erase_7 : decode cX7_erase 7 = .ok (.istore_n 1, 1) := by decide +kernel
theorem dX7_erase_8 : decode cX7_erase 8 = .ok (.aload_n 0, 1) := by decide +kernel
theorem dX7_erase_9 : decode cX7_erase 9 = .ok (.getfield 33, 3) := by decide +kernel
theorem dX7_erase_12 : decode cX7_erase 12 = .ok (.invokevirtual 60, 3) := by decide +kernel
theorem dX7_erase_15 : decode cX7_erase 15 = .ok (.iload_n 1, 1) := by decide +kernel
theorem dX7_erase_16 : decode cX7_erase 16 = .ok (.ireturn, 1) := by decide +kernel
set_option maxRecDepth 20000 in
theorem ggX7_runs_X3_readAll : GoodIn wsX7_runs wsX3_readAll := goodIn_r _ [13, 14, 15, 16, 17, 18, 19, 20, 12, 21, 22, 23, 24, 25, 26, 27, 28, 29, 30, 31, 32, 33, 34, 35, 36, 37, 38, 39, 40, 41, 42, 43, 44, 45, 46, 47, 48, 49, 50, 51, 52, 53, 54, 55, 56, 57, 58, 59, 60, 61, 62, 63, 64, 65, 66, 67, 68, 69, 70, 71, 72, 73, 74, 75, 76, 77, 78, 79, 80, 81, 82, 83, 84, 85, 86, 87, 88, 89, 90, 91, 92, 93, 94, 95, 96, 97, 98, 99, 100, 101, 102, 103, 104, 105, 106, 107, 108, 109, 110, 111, 112, 113, 114, 115, 116, 117, 118, 119, 120, 121, 122, 123, 124, 125, 126, 127, 128, 129, 130, 131, 132, 133, 134, 135, 136, 137, 138, 139, 140, 141, 142, 238, 239, 240, 241, 242, 243, 244, 245, 246] (by decide +kernel) (by decide +kernel)
set_option maxRecDepth 20000 in
theorem gX7_runs_X3_readAll : GoodIn wsX7_runs (wsV RX7 211 RX3 yX3_readAll wsX3_readAll) := goodIn_app (goodIn_of _ (by decide +kernel)) ggX7_runs_X3_readAll
set_option maxRecDepth 20000 in
theorem ggX7_runs_X4_remember : GoodIn wsX7_runs wsX4_remember := goodIn_r _ [147, 148, 149, 150, 151, 152, 153, 154, 155, 156, 157, 158, 159, 160, 161, 162, 163, 164, 165, 166, 167, 168, 169, 170, 171, 172, 173, 247, 248, 249, 250, 251, 252, 253, 254, 255, 256, 257, 258, 259] (by decide +kernel) (by decide +kernel)
set_option maxRecDepth 20000 in
theorem gX7_runs_X4_remember : GoodIn wsX7_runs (wsV RX7 103 RX4 yX4_remember wsX4_remember) := goodIn_app (goodIn_of _ (by decide +kernel)) ggX7_runs_X4_remember
set_option maxRecDepth 20000 in
theorem ggX7_runs_X7_isDone : GoodIn wsX7_runs wsX7_isDone := goodIn_r _ [177, 3, 178, 179, 180, 181, 182, 44, 183, 184, 185, 186, 158, 187, 160, 169, 188, 189, 190, 191, 161, 192, 193, 194, 195, 168, 170, 171, 172, 173, 196, 197, 198, 199, 200, 201, 202, 203, 204, 205, 206, 207, 208, 209, 210, 211, 152, 153, 154, 212, 213, 214, 215, 216, 217, 218, 219, 220, 221, 222, 223, 224, 225, 226, 227, 228, 164, 165, 166, 167, 229, 230, 231, 232, 233, 234, 235, 236, 237, 250, 251, 252, 253, 254, 255, 256, 257, 258, 259] (by decide +kernel) (by decide +kernel)
set_option maxRecDepth 20000 in
theorem gX7_runs_X7_isDone : GoodIn wsX7_runs (wsV RX7 225 RX7 yX7_isDone wsX7_isDone) := goodIn_app (goodIn_of _ (by decide +kernel)) ggX7_runs_X7_isDone
theorem dX7_runs_0 : decode cX7_runs 0 = .ok (.aload_n 0, 1) := by decide +kernel
theorem dX7_runs_1 : decode cX7_runs 1 = .ok (.getfield 33, 3) := by decide +kernel
theorem dX7_runs_4 : decode cX7_runs 4 = .ok (.invokevirtual 211, 3) := by decide +kernel
theorem dX7_runs_7 : decode cX7_runs 7 = .ok (.istore_n 1, 1) := by decide +kernel
theorem dX7_runs_8 : decode cX7_runs 8 = .ok (.iload_n 1, 1) := by decide +kernel
theorem dX7_runs_9 : decode cX7_runs 9 = .ok (.iconst (-1), 1) := by decide +kernel
theorem dX7_runs_10 : decode cX7_runs 10 = .ok (.if_icmp .eq 8, 3) := by decide +kernel
theorem dX7_runs_13 : decode cX7_runs 13 = .ok (.bipush (-10), 2) := by decide +kernel
theorem dX7_runs_15 : decode cX7_runs 15 = .ok (.iload_n 1, 1) := by decide +kernel
theorem dX7_runs_16 : decode cX7_runs 16 = .ok (.isub, 1) := by decide +kernel
theorem dX7_runs_17 : decode cX7_runs 17 = .ok (.ireturn, 1) := by decide +kernel
theorem dX7_runs_18 : decode cX7_runs 18 = .ok (.aload_n 0, 1) := by decide +kernel
theorem dX7_runs_19 : decode cX7_runs 19 = .ok (.getfield 19, 3) := by decide +kernel
theorem dX7_runs_22 : decode cX7_runs 22 = .ok (.aload_n 0, 1) := by decide +kernel
theorem dX7_runs_23 : decode cX7_runs 23 = .ok (.getfield 10, 3) := by decide +kernel
theorem dX7_runs_26 : decode cX7_runs 26 = .ok (.invokevirtual 103, 3) := by decide +kernel
theorem dX7_runs_29 : decode cX7_runs 29 = .ok (.iconst 0, 1) := by decide +kernel
theorem dX7_runs_30 : decode cX7_runs 30 = .ok (.istore_n 2, 1) := by decide +kernel
theorem dX7_runs_31 : decode cX7_runs 31 = .ok (.iconst 0, 1) := by decide +kernel
theorem dX7_runs_32 : decode cX7_runs 32 = .ok (.istore_n 3, 1) := by decide +kernel
theorem dX7_runs_33 : decode cX7_runs 33 = .ok (.iload_n 3, 1) := by decide +kernel
theorem dX7_runs_34 : decode cX7_runs 34 = .ok (.aload_n 0, 1) := by decide +kernel
theorem dX7_runs_35 : decode cX7_runs 35 = .ok (.getfield 33, 3) := by decide +kernel
theorem dX7_runs_38 : decode cX7_runs 38 = .ok (.getfield 214, 3) := by decide +kernel
theorem dX7_runs_41 : decode cX7_runs 41 = .ok (.if_icmp .ge 55, 3) := by decide +kernel
theorem dX7_runs_44 : decode cX7_runs 44 = .ok (.aload_n 0, 1) := by decide +kernel
theorem dX7_runs_45 : decode cX7_runs 45 = .ok (.aload_n 0, 1) := by decide +kernel
theorem dX7_runs_46 : decode cX7_runs 46 = .ok (.getfield 33, 3) := by decide +kernel
theorem dX7_runs_49 : decode cX7_runs 49 = .ok (.getfield 215, 3) := by decide +kernel
theorem dX7_runs_52 : decode cX7_runs 52 = .ok (.iload_n 3, 1) := by decide +kernel
theorem dX7_runs_53 : decode cX7_runs 53 = .ok (.iaload, 1) := by decide +kernel
theorem dX7_runs_54 : decode cX7_runs 54 = .ok (.aload_n 0, 1) := by decide +kernel
theorem dX7_runs_55 : decode cX7_runs 55 = .ok (.getfield 33, 3) := by decide +kernel
theorem dX7_runs_58 : decode cX7_runs 58 = .ok (.getfield 218, 3) := by decide +kernel
theorem dX7_runs_61 : decode cX7_runs 61 = .ok (.iload_n 3, 1) := by decide +kernel
theorem dX7_runs_62 : decode cX7_runs 62 = .ok (.laload, 1) := by decide +kernel
theorem dX7_runs_63 : decode cX7_runs 63 = .ok (.aload_n 0, 1) := by decide +kernel
theorem dX7_runs_64 : decode cX7_runs 64 = .ok (.getfield 33, 3) := by decide +kernel
theorem dX7_runs_67 : decode cX7_runs 67 = .ok (.getfield 219, 3) := by decide +kernel
theorem dX7_runs_70 : decode cX7_runs 70 = .ok (.iload_n 3, 1) := by decide +kernel
theorem dX7_runs_71 : decode cX7_runs 71 = .ok (.iaload, 1) := by decide +kernel
theorem dX7_runs_72 : decode cX7_runs 72 = .ok (.aload_n 0, 1) := by decide +kernel
theorem dX7_runs_73 : decode cX7_runs 73 = .ok (.getfield 33, 3) := by decide +kernel
theorem dX7_runs_76 : decode cX7_runs 76 = .ok (.getfield 222, 3) := by decide +kernel
theorem dX7_runs_79 : decode cX7_runs 79 = .ok (.iload_n 3, 1) := by decide +kernel
theorem dX7_runs_80 : decode cX7_runs 80 = .ok (.iaload, 1) := by decide +kernel
theorem dX7_runs_81 : decode cX7_runs 81 = .ok (.invokevirtual 225, 3) := by decide +kernel
theorem dX7_runs_84 : decode cX7_runs 84 = .ok (.ifCond .eq 6, 3) := by decide +kernel
theorem dX7_runs_87 : decode cX7_runs 87 = .ok (.iinc 2 1, 3) := by decide +kernel
theorem dX7_runs_90 : decode cX7_runs 90 = .ok (.iinc 3 1, 3) := by decide +kernel
theorem dX7_runs_93 : decode cX7_runs 93 = .ok (.goto (-60), 3) := by decide +kernel
theorem dX7_runs_96 : decode cX7_runs 96 = .ok (.iload_n 2, 1) := by decide +kernel
theorem dX7_runs_97 : decode cX7_runs 97 = .ok (.ireturn, 1) := by decide +kernel
set_option maxRecDepth 20000 in
theorem ggX7_told_X7_isWithin : GoodIn wsX7_told wsX7_isWithin := goodIn_r _ [4] (by decide +kernel) (by decide +kernel)
set_option maxRecDepth 20000 in
theorem gX7_told_X7_isWithin : GoodIn wsX7_told (va_wsS RX7 61 yX7_isWithin wsX7_isWithin) := goodIn_app (goodIn_of _ (by decide +kernel)) ggX7_told_X7_isWithin
set_option maxRecDepth 20000 in
theorem ggX7_told_X7_howMany : GoodIn wsX7_told wsX7_howMany := goodIn_r _ [8, 9, 10, 11, 12, 13, 14, 15, 16, 17, 18, 19, 20, 21, 22, 23, 24, 25, 26, 27, 28, 29, 30, 31, 32, 33, 34, 35, 40, 41, 42, 43, 44, 45, 46, 47, 48, 49, 50, 51, 52, 53, 54, 55, 56, 57, 58, 59, 60, 61, 62, 63, 64, 65, 66, 67, 68, 69, 70] (by decide +kernel) (by decide +kernel)
set_option maxRecDepth 20000 in
theorem gX7_told_X7_howMany : GoodIn wsX7_told (wsV RX7 229 RX7 yX7_howMany wsX7_howMany) := goodIn_app (goodIn_of _ (by decide +kernel)) ggX7_told_X7_howMany
set_option maxRecDepth 20000 in
theorem ggX7_told_X7_refuseBad : GoodIn wsX7_told wsX7_refuseBad := goodIn_r _ [39, 20, 40, 41, 42, 43, 44, 45, 46, 47, 48] (by decide +kernel) (by decide +kernel)
set_option maxRecDepth 20000 in
theorem gX7_told_X7_refuseBad : GoodIn wsX7_told (wsV RX7 65 RX7 yX7_refuseBad wsX7_refuseBad) := goodIn_app (goodIn_of _ (by decide +kernel)) ggX7_told_X7_refuseBad
theorem dX7_told_0 : decode cX7_told 0 = .ok (.iload_n 1, 1) := by decide +kernel
theorem dX7_told_1 : decode cX7_told 1 = .ok (.iconst 0, 1) := by decide +kernel
theorem dX7_told_2 : decode cX7_told 2 = .ok (.bipush 10, 2) := by decide +kernel
theorem dX7_told_4 : decode cX7_told 4 = .ok (.invokestatic 61, 3) := by decide +kernel
theorem dX7_told_7 : decode cX7_told 7 = .ok (.ifCond .eq 11, 3) := by decide +kernel
theorem dX7_told_10 : decode cX7_told 10 = .ok (.aload_n 0, 1) := by decide +kernel
theorem dX7_told_11 : decode cX7_told 11 = .ok (.iload_n 1, 1) := by decide +kernel
theorem dX7_told_12 : decode cX7_told 12 = .ok (.invokevirtual 229, 3) := by decide +kernel
theorem dX7_told_15 : decode cX7_told 15 = .ok (.goto 7, 3) := by decide +kernel
theorem dX7_told_18 : decode cX7_told 18 = .ok (.aload_n 0, 1) := by decide +kernel
theorem dX7_told_19 : decode cX7_told 19 = .ok (.invokevirtual 65, 3) := by decide +kernel
theorem dX7_told_22 : decode cX7_told 22 = .ok (.ireturn, 1) := by decide +kernel
set_option maxRecDepth 20000 in
theorem ggX7_digest_X7_howMany : GoodIn wsX7_digest wsX7_howMany := goodIn_r _ [12, 3, 4, 13, 14, 15, 16, 7, 17, 18, 19, 20, 21, 22, 23, 24, 25, 26, 27, 28, 29, 30, 31, 32, 33, 34, 35, 36, 55, 56, 57, 58, 59, 60, 61, 62, 63, 64, 65, 66, 67, 68, 69, 70, 71, 72, 73, 74, 75, 76, 77, 78, 79, 80, 81, 82, 83, 84, 85] (by decide +kernel) (by decide +kernel)
set_option maxRecDepth 20000 in
theorem gX7_digest_X7_howMany : GoodIn wsX7_digest (wsV RX7 229 RX7 yX7_howMany wsX7_howMany) := goodIn_app (goodIn_of _ (by decide +kernel)) ggX7_digest_X7_howMany
set_option maxRecDepth 20000 in
theorem ggX7_digest_X0_detail : GoodIn wsX7_digest wsX0_detail := goodIn_r _ [41, 42, 43, 44, 45, 46, 47, 25, 26, 27, 28, 29, 30, 31, 32, 33, 34, 35, 36, 64, 65, 66, 67, 68, 69, 70, 71, 72, 73] (by decide +kernel) (by decide +kernel)
set_option maxRecDepth 20000 in
theorem gX7_digest_X0_detail : GoodIn wsX7_digest (wsV RX7 111 RX0 yX0_detail wsX0_detail) := goodIn_app (goodIn_of _ (by decide +kernel)) ggX7_digest_X0_detail
set_option maxRecDepth 20000 in
theorem ggX7_digest_X7_mixLetters : GoodIn wsX7_digest wsX7_mixLetters := goodIn_r _ [50, 2, 24, 25, 26, 27, 28, 29, 30, 31, 32, 33, 34, 35, 36, 51, 52, 53, 54] (by decide +kernel) (by decide +kernel)
set_option maxRecDepth 20000 in
theorem gX7_digest_X7_mixLetters : GoodIn wsX7_digest (va_wsS RX7 236 yX7_mixLetters wsX7_mixLetters) := goodIn_app (goodIn_of _ (by decide +kernel)) ggX7_digest_X7_mixLetters
theorem dX7_digest_0 : decode cX7_digest 0 = .ok (.ldc2_w 232, 3) := by decide +kernel
theorem dX7_digest_3 : decode cX7_digest 3 = .ok (.lstore_n 1, 1) := by decide +kernel
theorem dX7_digest_4 : decode cX7_digest 4 = .ok (.iconst 0, 1) := by decide +kernel
theorem dX7_digest_5 : decode cX7_digest 5 = .ok (.istore_n 3, 1) := by decide +kernel
theorem dX7_digest_6 : decode cX7_digest 6 = .ok (.iload_n 3, 1) := by decide +kernel
theorem dX7_digest_7 : decode cX7_digest 7 = .ok (.bipush 10, 2) := by decide +kernel
theorem dX7_digest_9 : decode cX7_digest 9 = .ok (.if_icmp .gt 22, 3) := by decide +kernel
theorem dX7_digest_12 : decode cX7_digest 12 = .ok (.ldc2_w 234, 3) := by decide +kernel
theorem dX7_digest_15 : decode cX7_digest 15 = .ok (.lload_n 1, 1) := by decide +kernel
theorem dX7_digest_16 : decode cX7_digest 16 = .ok (.lmul, 1) := by decide +kernel
theorem dX7_digest_17 : decode cX7_digest 17 = .ok (.aload_n 0, 1) := by decide +kernel
theorem dX7_digest_18 : decode cX7_digest 18 = .ok (.iload_n 3, 1) := by decide +kernel
theorem dX7_digest_19 : decode cX7_digest 19 = .ok (.invokevirtual 229, 3) := by decide +kernel
theorem dX7_digest_22 : decode cX7_digest 22 = .ok (.i2l, 1) := by decide +kernel
theorem dX7_digest_23 : decode cX7_digest 23 = .ok (.ladd, 1) := by decide +kernel
theorem dX7_digest_24 : decode cX7_digest 24 = .ok (.lstore_n 1, 1) := by decide +kernel
theorem dX7_digest_25 : decode cX7_digest 25 = .ok (.iinc 3 1, 3) := by decide +kernel
theorem dX7_digest_28 : decode cX7_digest 28 = .ok (.goto (-22), 3) := by decide +kernel
theorem dX7_digest_31 : decode cX7_digest 31 = .ok (.iconst 0, 1) := by decide +kernel
theorem dX7_digest_32 : decode cX7_digest 32 = .ok (.istore_n 3, 1) := by decide +kernel
theorem dX7_digest_33 : decode cX7_digest 33 = .ok (.iload_n 3, 1) := by decide +kernel
theorem dX7_digest_34 : decode cX7_digest 34 = .ok (.aload_n 0, 1) := by decide +kernel
theorem dX7_digest_35 : decode cX7_digest 35 = .ok (.getfield 10, 3) := by decide +kernel
theorem dX7_digest_38 : decode cX7_digest 38 = .ok (.getfield 139, 3) := by decide +kernel
theorem dX7_digest_41 : decode cX7_digest 41 = .ok (.if_icmp .ge 73, 3) := by decide +kernel
theorem dX7_digest_44 : decode cX7_digest 44 = .ok (.ldc2_w 234, 3) := by decide +kernel
theorem dX7_digest_47 : decode cX7_digest 47 = .ok (.lload_n 1, 1) := by decide +kernel
theorem dX7_digest_48 : decode cX7_digest 48 = .ok (.lmul, 1) := by decide +kernel
theorem dX7_digest_49 : decode cX7_digest 49 = .ok (.aload_n 0, 1) := by decide +kernel
theorem dX7_digest_50 : decode cX7_digest 50 = .ok (.getfield 10, 3) := by decide +kernel
theorem dX7_digest_53 : decode cX7_digest 53 = .ok (.getfield 197, 3) := by decide +kernel
theorem dX7_digest_56 : decode cX7_digest 56 = .ok (.iload_n 3, 1) := by decide +kernel
theorem dX7_digest_57 : decode cX7_digest 57 = .ok (.iaload, 1) := by decide +kernel
theorem dX7_digest_58 : decode cX7_digest 58 = .ok (.i2l, 1) := by decide +kernel
theorem dX7_digest_59 : decode cX7_digest 59 = .ok (.ladd, 1) := by decide +kernel
theorem dX7_digest_60 : decode cX7_digest 60 = .ok (.lstore_n 1, 1) := by decide +kernel
theorem dX7_digest_61 : decode cX7_digest 61 = .ok (.iconst 0, 1) := by decide +kernel
theorem dX7_digest_62 : decode cX7_digest 62 = .ok (.istore 4, 2) := by decide +kernel
theorem dX7_digest_64 : decode cX7_digest 64 = .ok (.iload 4, 2) := by decide +kernel
theorem dX7_digest_66 : decode cX7_digest 66 = .ok (.iconst 4, 1) := by decide +kernel
theorem dX7_digest_67 : decode cX7_digest 67 = .ok (.if_icmp .gt 27, 3) := by decide +kernel
theorem dX7_digest_70 : decode cX7_digest 70 = .ok (.ldc2_w 234, 3) := by decide +kernel
theorem dX7_digest_73 : decode cX7_digest 73 = .ok (.lload_n 1, 1) := by decide +kernel
theorem dX7_digest_74 : decode cX7_digest 74 = .ok (.lmul, 1) := by decide +kernel
theorem dX7_digest_75 : decode cX7_digest 75 = .ok (.aload_n 0, 1) := by decide +kernel
theorem dX7_digest_76 : decode cX7_digest 76 = .ok (.getfield 10, 3) := by decide +kernel
theorem dX7_digest_79 : decode cX7_digest 79 = .ok (.iload_n 3, 1) := by decide +kernel
theorem dX7_digest_80 : decode cX7_digest 80 = .ok (.iload 4, 2) := by decide +kernel
theorem dX7_digest_82 : decode cX7_digest 82 = .ok (.invokevirtual 111, 3) := by decide +kernel
theorem dX7_digest_85 : decode cX7_digest 85 = .ok (.i2l, 1) := by decide +kernel
theorem dX7_digest_86 : decode cX7_digest 86 = .ok (.ladd, 1) := by decide +kernel
theorem dX7_digest_87 : decode cX7_digest 87 = .ok (.lstore_n 1, 1) := by decide +kernel
theorem dX7_digest_88 : decode cX7_digest 88 = .ok (.iinc 4 1, 3) := by decide +kernel
theorem dX7_digest_91 : decode cX7_digest 91 = .ok (.goto (-27), 3) := by decide +kernel
theorem dX7_digest_94 : decode cX7_digest 94 = .ok (.lload_n 1, 1) := by decide +kernel
theorem dX7_digest_95 : decode cX7_digest 95 = .ok (.aload_n 0, 1) := by decide +kernel
theorem dX7_digest_96 : decode cX7_digest 96 = .ok (.getfield 10, 3) := by decide +kernel
theorem dX7_digest_99 : decode cX7_digest 99 = .ok (.getfield 92, 3) := by decide +kernel
theorem dX7_digest_102 : decode cX7_digest 102 = .ok (.iload_n 3, 1) := by decide +kernel
theorem dX7_digest_103 : decode cX7_digest 103 = .ok (.laload, 1) := by decide +kernel
theorem dX7_digest_104 : decode cX7_digest 104 = .ok (.invokestatic 236, 3) := by decide +kernel
theorem dX7_digest_107 : decode cX7_digest 107 = .ok (.lstore_n 1, 1) := by decide +kernel
theorem dX7_digest_108 : decode cX7_digest 108 = .ok (.iinc 3 1, 3) := by decide +kernel
theorem dX7_digest_111 : decode cX7_digest 111 = .ok (.goto (-78), 3) := by decide +kernel
theorem dX7_digest_114 : decode cX7_digest 114 = .ok (.lload_n 1, 1) := by decide +kernel
theorem dX7_digest_115 : decode cX7_digest 115 = .ok (.aload_n 0, 1) := by decide +kernel
theorem dX7_digest_116 : decode cX7_digest 116 = .ok (.getfield 37, 3) := by decide +kernel
theorem dX7_digest_119 : decode cX7_digest 119 = .ok (.invokestatic 236, 3) := by decide +kernel
theorem dX7_digest_122 : decode cX7_digest 122 = .ok (.lreturn, 1) := by decide +kernel
set_option maxRecDepth 20000 in
theorem ggX7_mixLetters_X6_lengthOf : GoodIn wsX7_mixLetters wsX6_lengthOf := goodIn_r _ [5, 6, 7, 8, 9, 10, 11, 12, 13, 14] (by decide +kernel) (by decide +kernel)
set_option maxRecDepth 20000 in
theorem gX7_mixLetters_X6_lengthOf : GoodIn wsX7_mixLetters (va_wsS RX7 69 yX6_lengthOf wsX6_lengthOf) := goodIn_app (goodIn_of _ (by decide +kernel)) ggX7_mixLetters_X6_lengthOf
set_option maxRecDepth 20000 in
theorem ggX7_mixLetters_X6_letterAt : GoodIn wsX7_mixLetters wsX6_letterAt := goodIn_r _ [17, 18] (by decide +kernel) (by decide +kernel)
set_option maxRecDepth 20000 in
theorem gX7_mixLetters_X6_letterAt : GoodIn wsX7_mixLetters (va_wsS RX7 115 yX6_letterAt wsX6_letterAt) := goodIn_app (goodIn_of _ (by decide +kernel)) ggX7_mixLetters_X6_letterAt
theorem dX7_mixLetters_0 : decode cX7_mixLetters 0 = .ok (.lload_n 0, 1) := by decide +kernel
theorem dX7_mixLetters_1 : decode cX7_mixLetters 1 = .ok (.lstore 4, 2) := by decide +kernel
theorem dX7_mixLetters_3 : decode cX7_mixLetters 3 = .ok (.lload_n 2, 1) := by decide +kernel
theorem dX7_mixLetters_4 : decode cX7_mixLetters 4 = .ok (.invokestatic 69, 3) := by decide +kernel
theorem dX7_mixLetters_7 : decode cX7_mixLetters 7 = .ok (.istore 6, 2) := by decide +kernel
theorem dX7_mixLetters_9 : decode cX7_mixLetters 9 = .ok (.iconst 0, 1) := by decide +kernel
theorem dX7_mixLetters_10 : decode cX7_mixLetters 10 = .ok (.istore 7, 2) := by decide +kernel
theorem dX7_mixLetters_12 : decode cX7_mixLetters 12 = .ok (.iload 7, 2) := by decide +kernel
theorem dX7_mixLetters_14 : decode cX7_mixLetters 14 = .ok (.iload 6, 2) := by decide +kernel
theorem dX7_mixLetters_16 : decode cX7_mixLetters 16 = .ok (.if_icmp .ge 25, 3) := by decide +kernel
theorem dX7_mixLetters_19 : decode cX7_mixLetters 19 = .ok (.ldc2_w 234, 3) := by decide +kernel
theorem dX7_mixLetters_22 : decode cX7_mixLetters 22 = .ok (.lload 4, 2) := by decide +kernel
theorem dX7_mixLetters_24 : decode cX7_mixLetters 24 = .ok (.lmul, 1) := by decide +kernel
theorem dX7_mixLetters_25 : decode cX7_mixLetters 25 = .ok (.lload_n 2, 1) := by decide +kernel
theorem dX7_mixLetters_26 : decode cX7_mixLetters 26 = .ok (.iload 7, 2) := by decide +kernel
theorem dX7_mixLetters_28 : decode cX7_mixLetters 28 = .ok (.invokestatic 115, 3) := by decide +kernel
theorem dX7_mixLetters_31 : decode cX7_mixLetters 31 = .ok (.i2l, 1) := by decide +kernel
theorem dX7_mixLetters_32 : decode cX7_mixLetters 32 = .ok (.ladd, 1) := by decide +kernel
theorem dX7_mixLetters_33 : decode cX7_mixLetters 33 = .ok (.lstore 4, 2) := by decide +kernel
theorem dX7_mixLetters_35 : decode cX7_mixLetters 35 = .ok (.iinc 7 1, 3) := by decide +kernel
theorem dX7_mixLetters_38 : decode cX7_mixLetters 38 = .ok (.goto (-26), 3) := by decide +kernel
theorem dX7_mixLetters_41 : decode cX7_mixLetters 41 = .ok (.lload 4, 2) := by decide +kernel
theorem dX7_mixLetters_43 : decode cX7_mixLetters 43 = .ok (.lreturn, 1) := by decide +kernel
theorem dX7_isWithin_0 : decode cX7_isWithin 0 = .ok (.iload_n 0, 1) := by decide +kernel
theorem dX7_isWithin_1 : decode cX7_isWithin 1 = .ok (.iload_n 1, 1) := by decide +kernel
theorem dX7_isWithin_2 : decode cX7_isWithin 2 = .ok (.if_icmp .lt 12, 3) := by decide +kernel
theorem dX7_isWithin_5 : decode cX7_isWithin 5 = .ok (.iload_n 0, 1) := by decide +kernel
theorem dX7_isWithin_6 : decode cX7_isWithin 6 = .ok (.iload_n 2, 1) := by decide +kernel
theorem dX7_isWithin_7 : decode cX7_isWithin 7 = .ok (.if_icmp .gt 7, 3) := by decide +kernel
theorem dX7_isWithin_10 : decode cX7_isWithin 10 = .ok (.iconst 1, 1) := by decide +kernel
theorem dX7_isWithin_11 : decode cX7_isWithin 11 = .ok (.goto 4, 3) := by decide +kernel
theorem dX7_isWithin_14 : decode cX7_isWithin 14 = .ok (.iconst 0, 1) := by decide +kernel
theorem dX7_isWithin_15 : decode cX7_isWithin 15 = .ok (.ireturn, 1) := by decide +kernel
theorem dX7_refuseBad_0 : decode cX7_refuseBad 0 = .ok (.aload_n 0, 1) := by decide +kernel
theorem dX7_refuseBad_1 : decode cX7_refuseBad 1 = .ok (.dup, 1) := by decide +kernel
theorem dX7_refuseBad_2 : decode cX7_refuseBad 2 = .ok (.getfield 45, 3) := by decide +kernel
theorem dX7_refuseBad_5 : decode cX7_refuseBad 5 = .ok (.iconst 1, 1) := by decide +kernel
theorem dX7_refuseBad_6 : decode cX7_refuseBad 6 = .ok (.iadd, 1) := by decide +kernel
theorem dX7_refuseBad_7 : decode cX7_refuseBad 7 = .ok (.putfield 45, 3) := by decide +kernel
theorem dX7_refuseBad_10 : decode cX7_refuseBad 10 = .ok (.bipush (-2), 2) := by decide +kernel
theorem dX7_refuseBad_12 : decode cX7_refuseBad 12 = .ok (.ireturn, 1) := by decide +kernel
theorem dX7_refusePlace_0 : decode cX7_refusePlace 0 = .ok (.aload_n 0, 1) := by decide +kernel
theorem dX7_refusePlace_1 : decode cX7_refusePlace 1 = .ok (.dup, 1) := by decide +kernel
theorem dX7_refusePlace_2 : decode cX7_refusePlace 2 = .ok (.getfield 45, 3) := by decide +kernel
theorem dX7_refusePlace_5 : decode cX7_refusePlace 5 = .ok (.iconst 1, 1) := by decide +kernel
theorem dX7_refusePlace_6 : decode cX7_refusePlace 6 = .ok (.iadd, 1) := by decide +kernel
theorem dX7_refusePlace_7 : decode cX7_refusePlace 7 = .ok (.putfield 45, 3) := by decide +kernel
theorem dX7_refusePlace_10 : decode cX7_refusePlace 10 = .ok (.bipush (-10), 2) := by decide +kernel
theorem dX7_refusePlace_12 : decode cX7_refusePlace 12 = .ok (.ireturn, 1) := by decide +kernel
theorem dX7_refuseNo_0 : decode cX7_refuseNo 0 = .ok (.aload_n 0, 1) := by decide +kernel
theorem dX7_refuseNo_1 : decode cX7_refuseNo 1 = .ok (.dup, 1) := by decide +kernel
theorem dX7_refuseNo_2 : decode cX7_refuseNo 2 = .ok (.getfield 48, 3) := by decide +kernel
theorem dX7_refuseNo_5 : decode cX7_refuseNo 5 = .ok (.iconst 1, 1) := by decide +kernel
theorem dX7_refuseNo_6 : decode cX7_refuseNo 6 = .ok (.iadd, 1) := by decide +kernel
theorem dX7_refuseNo_7 : decode cX7_refuseNo 7 = .ok (.putfield 48, 3) := by decide +kernel
theorem dX7_refuseNo_10 : decode cX7_refuseNo 10 = .ok (.bipush (-3), 2) := by decide +kernel
theorem dX7_refuseNo_12 : decode cX7_refuseNo 12 = .ok (.ireturn, 1) := by decide +kernel
theorem dX7_refuseFull_0 : decode cX7_refuseFull 0 = .ok (.aload_n 0, 1) := by decide +kernel
theorem dX7_refuseFull_1 : decode cX7_refuseFull 1 = .ok (.dup, 1) := by decide +kernel
theorem dX7_refuseFull_2 : decode cX7_refuseFull 2 = .ok (.getfield 51, 3) := by decide +kernel
theorem dX7_refuseFull_5 : decode cX7_refuseFull 5 = .ok (.iconst 1, 1) := by decide +kernel
theorem dX7_refuseFull_6 : decode cX7_refuseFull 6 = .ok (.iadd, 1) := by decide +kernel
theorem dX7_refuseFull_7 : decode cX7_refuseFull 7 = .ok (.putfield 51, 3) := by decide +kernel
theorem dX7_refuseFull_10 : decode cX7_refuseFull 10 = .ok (.bipush (-4), 2) := by decide +kernel
theorem dX7_refuseFull_12 : decode cX7_refuseFull 12 = .ok (.ireturn, 1) := by decide +kernel
set_option maxRecDepth 20000 in
theorem ggX7_beginsSo_X6_begins : GoodIn wsX7_beginsSo wsX6_begins := goodIn_r _ [7, 8, 9, 6, 10, 11, 12, 13, 14, 15, 16, 17, 18, 19, 20, 21, 22, 23, 24, 25] (by decide +kernel) (by decide +kernel)
set_option maxRecDepth 20000 in
theorem gX7_beginsSo_X6_begins : GoodIn wsX7_beginsSo (va_wsS RX7 240 yX6_begins wsX6_begins) := goodIn_app (goodIn_of _ (by decide +kernel)) ggX7_beginsSo_X6_begins
theorem dX7_beginsSo_0 : decode cX7_beginsSo 0 = .ok (.aload_n 0, 1) := by decide +kernel
theorem dX7_beginsSo_1 : decode cX7_beginsSo 1 = .ok (.getfield 10, 3) := by decide +kernel
theorem dX7_beginsSo_4 : decode cX7_beginsSo 4 = .ok (.getfield 92, 3) := by decide +kernel
theorem dX7_beginsSo_7 : decode cX7_beginsSo 7 = .ok (.iload_n 1, 1) := by decide +kernel
theorem dX7_beginsSo_8 : decode cX7_beginsSo 8 = .ok (.laload, 1) := by decide +kernel
theorem dX7_beginsSo_9 : decode cX7_beginsSo 9 = .ok (.aload_n 0, 1) := by decide +kernel
theorem dX7_beginsSo_10 : decode cX7_beginsSo 10 = .ok (.getfield 37, 3) := by decide +kernel
theorem dX7_beginsSo_13 : decode cX7_beginsSo 13 = .ok (.invokestatic 240, 3) := by decide +kernel
theorem dX7_beginsSo_16 : decode cX7_beginsSo 16 = .ok (.ireturn, 1) := by decide +kernel
set_option maxRecDepth 20000 in
theorem ggX7_isClose_X6_isOneSlipFrom : GoodIn wsX7_isClose wsX6_isOneSlipFrom := goodIn_r _ [7, 8, 9, 6, 10, 11, 12, 13, 14, 15, 16, 17, 18, 19, 20, 21, 22, 23, 24, 25, 26, 27, 28, 29, 30, 31, 32, 33, 34, 35, 36, 37, 38, 39, 40, 41] (by decide +kernel) (by decide +kernel)
set_option maxRecDepth 20000 in
theorem gX7_isClose_X6_isOneSlipFrom : GoodIn wsX7_isClose (va_wsS RX7 244 yX6_isOneSlipFrom wsX6_isOneSlipFrom) := goodIn_app (goodIn_of _ (by decide +kernel)) ggX7_isClose_X6_isOneSlipFrom
theorem dX7_isClose_0 : decode cX7_isClose 0 = .ok (.aload_n 0, 1) := by decide +kernel
theorem dX7_isClose_1 : decode cX7_isClose 1 = .ok (.getfield 10, 3) := by decide +kernel
theorem dX7_isClose_4 : decode cX7_isClose 4 = .ok (.getfield 92, 3) := by decide +kernel
theorem dX7_isClose_7 : decode cX7_isClose 7 = .ok (.iload_n 1, 1) := by decide +kernel
theorem dX7_isClose_8 : decode cX7_isClose 8 = .ok (.laload, 1) := by decide +kernel
theorem dX7_isClose_9 : decode cX7_isClose 9 = .ok (.aload_n 0, 1) := by decide +kernel
theorem dX7_isClose_10 : decode cX7_isClose 10 = .ok (.getfield 37, 3) := by decide +kernel
theorem dX7_isClose_13 : decode cX7_isClose 13 = .ok (.invokestatic 244, 3) := by decide +kernel
theorem dX7_isClose_16 : decode cX7_isClose 16 = .ok (.ireturn, 1) := by decide +kernel
set_option maxRecDepth 20000 in
theorem ggX7_listedAt_X2_keepFirstOfEachMeaning : GoodIn wsX7_listedAt wsX2_keepFirstOfEachMeaning := goodIn_r _ [10, 11, 12, 13, 23, 24, 25, 26, 27, 28, 29, 30, 31, 32, 33, 34, 35] (by decide +kernel) (by decide +kernel)
set_option maxRecDepth 20000 in
theorem gX7_listedAt_X2_keepFirstOfEachMeaning : GoodIn wsX7_listedAt (wsV RX7 247 RX2 yX2_keepFirstOfEachMeaning wsX2_keepFirstOfEachMeaning) := goodIn_app (goodIn_of _ (by decide +kernel)) ggX7_listedAt_X2_keepFirstOfEachMeaning
theorem dX7_listedAt_0 : decode cX7_listedAt 0 = .ok (.aload_n 0, 1) := by decide +kernel
theorem dX7_listedAt_1 : decode cX7_listedAt 1 = .ok (.getfield 26, 3) := by decide +kernel
theorem dX7_listedAt_4 : decode cX7_listedAt 4 = .ok (.aload_n 0, 1) := by decide +kernel
theorem dX7_listedAt_5 : decode cX7_listedAt 5 = .ok (.getfield 10, 3) := by decide +kernel
theorem dX7_listedAt_8 : decode cX7_listedAt 8 = .ok (.invokevirtual 247, 3) := by decide +kernel
theorem dX7_listedAt_11 : decode cX7_listedAt 11 = .ok (.iload_n 1, 1) := by decide +kernel
theorem dX7_listedAt_12 : decode cX7_listedAt 12 = .ok (.iconst (-1), 1) := by decide +kernel
theorem dX7_listedAt_13 : decode cX7_listedAt 13 = .ok (.if_icmp .ne 11, 3) := by decide +kernel
theorem dX7_listedAt_16 : decode cX7_listedAt 16 = .ok (.aload_n 0, 1) := by decide +kernel
theorem dX7_listedAt_17 : decode cX7_listedAt 17 = .ok (.getfield 26, 3) := by decide +kernel
theorem dX7_listedAt_20 : decode cX7_listedAt 20 = .ok (.getfield 250, 3) := by decide +kernel
theorem dX7_listedAt_23 : decode cX7_listedAt 23 = .ok (.ireturn, 1) := by decide +kernel
theorem dX7_listedAt_24 : decode cX7_listedAt 24 = .ok (.iload_n 1, 1) := by decide +kernel
theorem dX7_listedAt_25 : decode cX7_listedAt 25 = .ok (.ifCond .lt 14, 3) := by decide +kernel
theorem dX7_listedAt_28 : decode cX7_listedAt 28 = .ok (.iload_n 1, 1) := by decide +kernel
theorem dX7_listedAt_29 : decode cX7_listedAt 29 = .ok (.aload_n 0, 1) := by decide +kernel
theorem dX7_listedAt_30 : decode cX7_listedAt 30 = .ok (.getfield 26, 3) := by decide +kernel
theorem dX7_listedAt_33 : decode cX7_listedAt 33 = .ok (.getfield 250, 3) := by decide +kernel
theorem dX7_listedAt_36 : decode cX7_listedAt 36 = .ok (.if_icmp .lt 6, 3) := by decide +kernel
theorem dX7_listedAt_39 : decode cX7_listedAt 39 = .ok (.bipush (-5), 2) := by decide +kernel
theorem dX7_listedAt_41 : decode cX7_listedAt 41 = .ok (.ireturn, 1) := by decide +kernel
theorem dX7_listedAt_42 : decode cX7_listedAt 42 = .ok (.aload_n 0, 1) := by decide +kernel
theorem dX7_listedAt_43 : decode cX7_listedAt 43 = .ok (.getfield 10, 3) := by decide +kernel
theorem dX7_listedAt_46 : decode cX7_listedAt 46 = .ok (.getfield 197, 3) := by decide +kernel
theorem dX7_listedAt_49 : decode cX7_listedAt 49 = .ok (.aload_n 0, 1) := by decide +kernel
theorem dX7_listedAt_50 : decode cX7_listedAt 50 = .ok (.getfield 26, 3) := by decide +kernel
theorem dX7_listedAt_53 : decode cX7_listedAt 53 = .ok (.getfield 251, 3) := by decide +kernel
theorem dX7_listedAt_56 : decode cX7_listedAt 56 = .ok (.iload_n 1, 1) := by decide +kernel
theorem dX7_listedAt_57 : decode cX7_listedAt 57 = .ok (.iaload, 1) := by decide +kernel
theorem dX7_listedAt_58 : decode cX7_listedAt 58 = .ok (.iaload, 1) := by decide +kernel
theorem dX7_listedAt_59 : decode cX7_listedAt 59 = .ok (.ireturn, 1) := by decide +kernel
set_option maxRecDepth 20000 in
theorem ggX7_lettersTillFirst_X0_isBefore : GoodIn wsX7_lettersTillFirst wsX0_isBefore := goodIn_r _ [12, 13, 46, 47, 48, 49, 50, 51, 52, 53, 54, 55] (by decide +kernel) (by decide +kernel)
set_option maxRecDepth 20000 in
theorem gX7_lettersTillFirst_X0_isBefore : GoodIn wsX7_lettersTillFirst (wsV RX7 186 RX0 yX0_isBefore wsX0_isBefore) := goodIn_app (goodIn_of _ (by decide +kernel)) ggX7_lettersTillFirst_X0_isBefore
set_option maxRecDepth 20000 in
theorem ggX7_lettersTillFirst_X6_sameAtFirst : GoodIn wsX7_lettersTillFirst wsX6_sameAtFirst := goodIn_r _ [17, 18, 19, 16, 20, 21, 22, 23, 24, 25, 26, 27, 28, 29, 30, 31, 32, 33, 34, 35] (by decide +kernel) (by decide +kernel)
set_option maxRecDepth 20000 in
theorem gX7_lettersTillFirst_X6_sameAtFirst : GoodIn wsX7_lettersTillFirst (va_wsS RX7 190 yX6_sameAtFirst wsX6_sameAtFirst) := goodIn_app (goodIn_of _ (by decide +kernel)) ggX7_lettersTillFirst_X6_sameAtFirst
set_option maxRecDepth 20000 in
theorem ggX7_lettersTillFirst_X6_lengthOf : GoodIn wsX7_lettersTillFirst wsX6_lengthOf := goodIn_r _ [20, 21, 22, 23, 24, 25, 26, 27, 28, 29] (by decide +kernel) (by decide +kernel)
set_option maxRecDepth 20000 in
theorem gX7_lettersTillFirst_X6_lengthOf : GoodIn wsX7_lettersTillFirst (va_wsS RX7 69 yX6_lengthOf wsX6_lengthOf) := goodIn_app (goodIn_of _ (by decide +kernel)) ggX7_lettersTillFirst_X6_lengthOf
theorem dX7_lettersTillFirst_0 : decode cX7_lettersTillFirst 0 = .ok (.iconst 0, 1) := by decide +kernel
theorem dX7_lettersTillFirst_1 : decode cX7_lettersTillFirst 1 = .ok (.istore_n 2, 1) := by decide +kernel
theorem dX7_lettersTillFirst_2 : decode cX7_lettersTillFirst 2 = .ok (.iconst 0, 1) := by decide +kernel
theorem dX7_lettersTillFirst_3 : decode cX7_lettersTillFirst 3 = .ok (.istore_n 3, 1) := by decide +kernel
theorem dX7_lettersTillFirst_4 : decode cX7_lettersTillFirst 4 = .ok (.iload_n 3, 1) := by decide +kernel
theorem dX7_lettersTillFirst_5 : decode cX7_lettersTillFirst 5 = .ok (.aload_n 0, 1) := by decide +kernel
theorem dX7_lettersTillFirst_6 : decode cX7_lettersTillFirst 6 = .ok (.getfield 10, 3) := by decide +kernel
theorem dX7_lettersTillFirst_9 : decode cX7_lettersTillFirst 9 = .ok (.getfield 139, 3) := by decide +kernel
theorem dX7_lettersTillFirst_12 : decode cX7_lettersTillFirst 12 = .ok (.if_icmp .ge 54, 3) := by decide +kernel
theorem dX7_lettersTillFirst_15 : decode cX7_lettersTillFirst 15 = .ok (.iload_n 3, 1) := by decide +kernel
theorem dX7_lettersTillFirst_16 : decode cX7_lettersTillFirst 16 = .ok (.iload_n 1, 1) := by decide +kernel
theorem dX7_lettersTillFirst_17 : decode cX7_lettersTillFirst 17 = .ok (.if_icmp .eq 43, 3) := by decide +kernel
theorem dX7_lettersTillFirst_20 : decode cX7_lettersTillFirst 20 = .ok (.aload_n 0, 1) := by decide +kernel
theorem dX7_lettersTillFirst_21 : decode cX7_lettersTillFirst 21 = .ok (.getfield 10, 3) := by decide +kernel
theorem dX7_lettersTillFirst_24 : decode cX7_lettersTillFirst 24 = .ok (.iload_n 3, 1) := by decide +kernel
theorem dX7_lettersTillFirst_25 : decode cX7_lettersTillFirst 25 = .ok (.iload_n 1, 1) := by decide +kernel
theorem dX7_lettersTillFirst_26 : decode cX7_lettersTillFirst 26 = .ok (.invokevirtual 186, 3) := by decide +kernel
theorem dX7_lettersTillFirst_29 : decode cX7_lettersTillFirst 29 = .ok (.ifCond .eq 31, 3) := by decide +kernel
theorem dX7_lettersTillFirst_32 : decode cX7_lettersTillFirst 32 = .ok (.iload_n 2, 1) := by decide +kernel
theorem dX7_lettersTillFirst_33 : decode cX7_lettersTillFirst 33 = .ok (.iconst 1, 1) := by decide +kernel
theorem dX7_lettersTillFirst_34 : decode cX7_lettersTillFirst 34 = .ok (.aload_n 0, 1) := by decide +kernel
theorem dX7_lettersTillFirst_35 : decode cX7_lettersTillFirst 35 = .ok (.getfield 10, 3) := by decide +kernel
theorem dX7_lettersTillFirst_38 : decode cX7_lettersTillFirst 38 = .ok (.getfield 92, 3) := by decide +kernel
theorem dX7_lettersTillFirst_41 : decode cX7_lettersTillFirst 41 = .ok (.iload_n 3, 1) := by decide +kernel
theorem dX7_lettersTillFirst_42 : decode cX7_lettersTillFirst 42 = .ok (.laload, 1) := by decide +kernel
theorem dX7_lettersTillFirst_43 : decode cX7_lettersTillFirst 43 = .ok (.aload_n 0, 1) := by decide +kernel
theorem dX7_lettersTillFirst_44 : decode cX7_lettersTillFirst 44 = .ok (.getfield 10, 3) := by decide +kernel
theorem dX7_lettersTillFirst_47 : decode cX7_lettersTillFirst 47 = .ok (.getfield 92, 3) := by decide +kernel
theorem dX7_lettersTillFirst_50 : decode cX7_lettersTillFirst 50 = .ok (.iload_n 1, 1) := by decide +kernel
theorem dX7_lettersTillFirst_51 : decode cX7_lettersTillFirst 51 = .ok (.laload, 1) := by decide +kernel
theorem dX7_lettersTillFirst_52 : decode cX7_lettersTillFirst 52 = .ok (.invokestatic 190, 3) := by decide +kernel
theorem dX7_lettersTillFirst_55 : decode cX7_lettersTillFirst 55 = .ok (.iadd, 1) := by decide +kernel
theorem dX7_lettersTillFirst_56 : decode cX7_lettersTillFirst 56 = .ok (.invokestatic 181, 3) := by decide +kernel
theorem dX7_lettersTillFirst_59 : decode cX7_lettersTillFirst 59 = .ok (.istore_n 2, 1) := by decide +kernel
theorem dX7_lettersTillFirst_60 : decode cX7_lettersTillFirst 60 = .ok (.iinc 3 1, 3) := by decide +kernel
theorem dX7_lettersTillFirst_63 : decode cX7_lettersTillFirst 63 = .ok (.goto (-59), 3) := by decide +kernel
theorem dX7_lettersTillFirst_66 : decode cX7_lettersTillFirst 66 = .ok (.iload_n 2, 1) := by decide +kernel
theorem dX7_lettersTillFirst_67 : decode cX7_lettersTillFirst 67 = .ok (.aload_n 0, 1) := by decide +kernel
theorem dX7_lettersTillFirst_68 : decode cX7_lettersTillFirst 68 = .ok (.getfield 10, 3) := by decide +kernel
theorem dX7_lettersTillFirst_71 : decode cX7_lettersTillFirst 71 = .ok (.getfield 92, 3) := by decide +kernel
theorem dX7_lettersTillFirst_74 : decode cX7_lettersTillFirst 74 = .ok (.iload_n 1, 1) := by decide +kernel
theorem dX7_lettersTillFirst_75 : decode cX7_lettersTillFirst 75 = .ok (.laload, 1) := by decide +kernel
theorem dX7_lettersTillFirst_76 : decode cX7_lettersTillFirst 76 = .ok (.invokestatic 69, 3) := by decide +kernel
theorem dX7_lettersTillFirst_79 : decode cX7_lettersTillFirst 79 = .ok (.if_icmp .gt 7, 3) := by decide +kernel
theorem dX7_lettersTillFirst_82 : decode cX7_lettersTillFirst 82 = .ok (.iload_n 2, 1) := by decide +kernel
theorem dX7_lettersTillFirst_83 : decode cX7_lettersTillFirst 83 = .ok (.goto 4, 3) := by decide +kernel
theorem dX7_lettersTillFirst_86 : decode cX7_lettersTillFirst 86 = .ok (.iconst (-1), 1) := by decide +kernel
theorem dX7_lettersTillFirst_87 : decode cX7_lettersTillFirst 87 = .ok (.ireturn, 1) := by decide +kernel
set_option maxRecDepth 20000 in
theorem ggX7_choose_X5_newScore : GoodIn wsX7_choose wsX5_newScore := goodIn_r _ [14, 15, 3, 4, 5, 16, 17, 13, 18, 19, 20, 21] (by decide +kernel) (by decide +kernel)
set_option maxRecDepth 20000 in
theorem gX7_choose_X5_newScore : GoodIn wsX7_choose (va_wsS RX7 260 yX5_newScore wsX5_newScore) := goodIn_app (goodIn_of _ (by decide +kernel)) ggX7_choose_X5_newScore
theorem dX7_choose_0 : decode cX7_choose 0 = .ok (.aload_n 0, 1) := by decide +kernel
theorem dX7_choose_1 : decode cX7_choose 1 = .ok (.aload_n 0, 1) := by decide +kernel
theorem dX7_choose_2 : decode cX7_choose 2 = .ok (.getfield 41, 3) := by decide +kernel
theorem dX7_choose_5 : decode cX7_choose 5 = .ok (.iconst 1, 1) := by decide +kernel
theorem dX7_choose_6 : decode cX7_choose 6 = .ok (.iadd, 1) := by decide +kernel
theorem dX7_choose_7 : decode cX7_choose 7 = .ok (.sipush 9999, 3) := by decide +kernel
theorem dX7_choose_10 : decode cX7_choose 10 = .ok (.invokestatic 194, 3) := by decide +kernel
theorem dX7_choose_13 : decode cX7_choose 13 = .ok (.putfield 41, 3) := by decide +kernel
theorem dX7_choose_16 : decode cX7_choose 16 = .ok (.aload_n 0, 1) := by decide +kernel
theorem dX7_choose_17 : decode cX7_choose 17 = .ok (.getfield 10, 3) := by decide +kernel
theorem dX7_choose_20 : decode cX7_choose 20 = .ok (.getfield 130, 3) := by decide +kernel
theorem dX7_choose_23 : decode cX7_choose 23 = .ok (.aload_n 0, 1) := by decide +kernel
theorem dX7_choose_24 : decode cX7_choose 24 = .ok (.getfield 10, 3) := by decide +kernel
theorem dX7_choose_27 : decode cX7_choose 27 = .ok (.getfield 122, 3) := by decide +kernel
theorem dX7_choose_30 : decode cX7_choose 30 = .ok (.iload_n 1, 1) := by decide +kernel
theorem dX7_choose_31 : decode cX7_choose 31 = .ok (.iaload, 1) := by decide +kernel
theorem dX7_choose_32 : decode cX7_choose 32 = .ok (.aload_n 0, 1) := by decide +kernel
theorem dX7_choose_33 : decode cX7_choose 33 = .ok (.getfield 10, 3) := by decide +kernel
theorem dX7_choose_36 : decode cX7_choose 36 = .ok (.getfield 254, 3) := by decide +kernel
theorem dX7_choose_39 : decode cX7_choose 39 = .ok (.iload_n 1, 1) := by decide +kernel
theorem dX7_choose_40 : decode cX7_choose 40 = .ok (.iaload, 1) := by decide +kernel
theorem dX7_choose_41 : decode cX7_choose 41 = .ok (.aload_n 0, 1) := by decide +kernel
theorem dX7_choose_42 : decode cX7_choose 42 = .ok (.getfield 10, 3) := by decide +kernel
theorem dX7_choose_45 : decode cX7_choose 45 = .ok (.getfield 257, 3) := by decide +kernel
theorem dX7_choose_48 : decode cX7_choose 48 = .ok (.iload_n 1, 1) := by decide +kernel
theorem dX7_choose_49 : decode cX7_choose 49 = .ok (.iaload, 1) := by decide +kernel
theorem dX7_choose_50 : decode cX7_choose 50 = .ok (.aload_n 0, 1) := by decide +kernel
theorem dX7_choose_51 : decode cX7_choose 51 = .ok (.getfield 41, 3) := by decide +kernel
theorem dX7_choose_54 : decode cX7_choose 54 = .ok (.invokestatic 260, 3) := by decide +kernel
theorem dX7_choose_57 : decode cX7_choose 57 = .ok (.istore_n 2, 1) := by decide +kernel
theorem dX7_choose_58 : decode cX7_choose 58 = .ok (.aload_n 0, 1) := by decide +kernel
theorem dX7_choose_59 : decode cX7_choose 59 = .ok (.getfield 10, 3) := by decide +kernel
theorem dX7_choose_62 : decode cX7_choose 62 = .ok (.getfield 122, 3) := by decide +kernel
theorem dX7_choose_65 : decode cX7_choose 65 = .ok (.iload_n 1, 1) := by decide +kernel
theorem dX7_choose_66 : decode cX7_choose 66 = .ok (.iload_n 2, 1) := by decide +kernel
theorem dX7_choose_67 : decode cX7_choose 67 = .ok (.iastore, 1) := by decide +kernel
theorem dX7_choose_68 : decode cX7_choose 68 = .ok (.aload_n 0, 1) := by decide +kernel
theorem dX7_choose_69 : decode cX7_choose 69 = .ok (.getfield 10, 3) := by decide +kernel
theorem dX7_choose_72 : decode cX7_choose 72 = .ok (.getfield 254, 3) := by decide +kernel
theorem dX7_choose_75 : decode cX7_choose 75 = .ok (.iload_n 1, 1) := by decide +kernel
theorem dX7_choose_76 : decode cX7_choose 76 = .ok (.dup2, 1) := by decide +kernel
theorem dX7_choose_77 : decode cX7_choose 77 = .ok (.iaload, 1) := by decide +kernel
theorem dX7_choose_78 : decode cX7_choose 78 = .ok (.iconst 1, 1) := by decide +kernel
theorem dX7_choose_79 : decode cX7_choose 79 = .ok (.iadd, 1) := by decide +kernel
theorem dX7_choose_80 : decode cX7_choose 80 = .ok (.iastore, 1) := by decide +kernel
theorem dX7_choose_81 : decode cX7_choose 81 = .ok (.aload_n 0, 1) := by decide +kernel
theorem dX7_choose_82 : decode cX7_choose 82 = .ok (.getfield 10, 3) := by decide +kernel
theorem dX7_choose_85 : decode cX7_choose 85 = .ok (.getfield 257, 3) := by decide +kernel
theorem dX7_choose_88 : decode cX7_choose 88 = .ok (.iload_n 1, 1) := by decide +kernel
theorem dX7_choose_89 : decode cX7_choose 89 = .ok (.aload_n 0, 1) := by decide +kernel
theorem dX7_choose_90 : decode cX7_choose 90 = .ok (.getfield 41, 3) := by decide +kernel
theorem dX7_choose_93 : decode cX7_choose 93 = .ok (.iastore, 1) := by decide +kernel
theorem dX7_choose_94 : decode cX7_choose 94 = .ok (.iload_n 2, 1) := by decide +kernel
theorem dX7_choose_95 : decode cX7_choose 95 = .ok (.ireturn, 1) := by decide +kernel
set_option maxRecDepth 20000 in
theorem ggX7_comes_X0_slotSpelled : GoodIn wsX7_comes wsX0_slotSpelled := goodIn_r _ [6, 7, 8, 33, 34, 35, 36, 37, 38, 39, 40, 41, 42] (by decide +kernel) (by decide +kernel)
set_option maxRecDepth 20000 in
theorem gX7_comes_X0_slotSpelled : GoodIn wsX7_comes (wsV RX7 96 RX0 yX0_slotSpelled wsX0_slotSpelled) := goodIn_app (goodIn_of _ (by decide +kernel)) ggX7_comes_X0_slotSpelled
set_option maxRecDepth 20000 in
theorem ggX7_comes_X0_hasRoom : GoodIn wsX7_comes wsX0_hasRoom := goodIn_r _ [12, 7, 13, 33, 34, 35, 36, 37, 38, 39, 40, 41, 42] (by decide +kernel) (by decide +kernel)
set_option maxRecDepth 20000 in
theorem gX7_comes_X0_hasRoom : GoodIn wsX7_comes (wsV RX7 99 RX0 yX0_hasRoom wsX0_hasRoom) := goodIn_app (goodIn_of _ (by decide +kernel)) ggX7_comes_X0_hasRoom
set_option maxRecDepth 20000 in
theorem ggX7_comes_X0_append : GoodIn wsX7_comes wsX0_append := goodIn_r _ [17, 18, 7, 13, 8, 19, 20, 21, 22, 23, 10, 11, 5, 12, 33, 34, 35, 36, 37, 38, 39, 40, 41, 42] (by decide +kernel) (by decide +kernel)
set_option maxRecDepth 20000 in
theorem gX7_comes_X0_append : GoodIn wsX7_comes (wsV RX7 107 RX0 yX0_append wsX0_append) := goodIn_app (goodIn_of _ (by decide +kernel)) ggX7_comes_X0_append
theorem dX7_comes_0 : decode cX7_comes 0 = .ok (.aload_n 0, 1) := by decide +kernel
theorem dX7_comes_1 : decode cX7_comes 1 = .ok (.getfield 10, 3) := by decide +kernel
theorem dX7_comes_4 : decode cX7_comes 4 = .ok (.lload_n 1, 1) := by decide +kernel
theorem dX7_comes_5 : decode cX7_comes 5 = .ok (.invokevirtual 96, 3) := by decide +kernel
theorem dX7_comes_8 : decode cX7_comes 8 = .ok (.iconst (-1), 1) := by decide +kernel
theorem dX7_comes_9 : decode cX7_comes 9 = .ok (.if_icmp .ne 13, 3) := by decide +kernel
theorem dX7_comes_12 : decode cX7_comes 12 = .ok (.aload_n 0, 1) := by decide +kernel
theorem dX7_comes_13 : decode cX7_comes 13 = .ok (.getfield 10, 3) := by decide +kernel
theorem dX7_comes_16 : decode cX7_comes 16 = .ok (.invokevirtual 99, 3) := by decide +kernel
theorem dX7_comes_19 : decode cX7_comes 19 = .ok (.ifCond .ne 5, 3) := by decide +kernel
theorem dX7_comes_22 : decode cX7_comes 22 = .ok (.iconst 0, 1) := by decide +kernel
theorem dX7_comes_23 : decode cX7_comes 23 = .ok (.ireturn, 1) := by decide +kernel
theorem dX7_comes_24 : decode cX7_comes 24 = .ok (.aload_n 0, 1) := by decide +kernel
theorem dX7_comes_25 : decode cX7_comes 25 = .ok (.getfield 10, 3) := by decide +kernel
theorem dX7_comes_28 : decode cX7_comes 28 = .ok (.lload_n 1, 1) := by decide +kernel
theorem dX7_comes_29 : decode cX7_comes 29 = .ok (.iload_n 3, 1) := by decide +kernel
theorem dX7_comes_30 : decode cX7_comes 30 = .ok (.iload 4, 2) := by decide +kernel
theorem dX7_comes_32 : decode cX7_comes 32 = .ok (.invokevirtual 107, 3) := by decide +kernel
theorem dX7_comes_35 : decode cX7_comes 35 = .ok (.pop, 1) := by decide +kernel
theorem dX7_comes_36 : decode cX7_comes 36 = .ok (.iconst 1, 1) := by decide +kernel
theorem dX7_comes_37 : decode cX7_comes 37 = .ok (.ireturn, 1) := by decide +kernel
set_option maxRecDepth 20000 in
theorem ggX7_isDone_X7_comes : GoodIn wsX7_isDone wsX7_comes := goodIn_r _ [8, 1, 9, 10, 11, 12, 13, 14, 15, 16, 17, 18, 19, 20, 21, 22, 23, 24, 25, 26, 27, 28, 29, 30, 70, 71, 72, 73, 74, 75, 76, 77, 78, 79, 80, 81, 82, 83, 84, 85, 86, 87, 88] (by decide +kernel) (by decide +kernel)
set_option maxRecDepth 20000 in
theorem gX7_isDone_X7_comes : GoodIn wsX7_isDone (wsV RX7 155 RX7 yX7_comes wsX7_comes) := goodIn_app (goodIn_of _ (by decide +kernel)) ggX7_isDone_X7_comes
set_option maxRecDepth 20000 in
theorem ggX7_isDone_X0_halveScores : GoodIn wsX7_isDone wsX0_halveScores := goodIn_r _ [34, 14, 26, 79, 80, 81, 82, 83, 84, 85, 86, 87, 88] (by decide +kernel) (by decide +kernel)
set_option maxRecDepth 20000 in
theorem gX7_isDone_X0_halveScores : GoodIn wsX7_isDone (wsV RX7 136 RX0 yX0_halveScores wsX0_halveScores) := goodIn_app (goodIn_of _ (by decide +kernel)) ggX7_isDone_X0_halveScores
set_option maxRecDepth 20000 in
theorem ggX7_isDone_X0_slotSpelled : GoodIn wsX7_isDone wsX0_slotSpelled := goodIn_r _ [13, 14, 15, 79, 80, 81, 82, 83, 84, 85, 86, 87, 88] (by decide +kernel) (by decide +kernel)
set_option maxRecDepth 20000 in
theorem gX7_isDone_X0_slotSpelled : GoodIn wsX7_isDone (wsV RX7 96 RX0 yX0_slotSpelled wsX0_slotSpelled) := goodIn_app (goodIn_of _ (by decide +kernel)) ggX7_isDone_X0_slotSpelled
set_option maxRecDepth 20000 in
theorem ggX7_isDone_X7_isDoneTo : GoodIn wsX7_isDone wsX7_isDoneTo := goodIn_r _ [38, 1, 39, 40, 41, 42, 7, 43, 44, 45, 46, 47, 48, 2, 49, 50, 51, 52, 53, 54, 55, 56, 57, 58, 59, 60, 61, 62, 63, 64, 12, 65, 14, 66, 67, 68, 69, 25, 15, 26, 27, 28, 29, 70, 71, 72, 73, 74, 75, 76, 77, 78, 79, 80, 81, 82, 83, 84, 85, 86, 87, 88] (by decide +kernel) (by decide +kernel)
set_option maxRecDepth 20000 in
theorem gX7_isDone_X7_isDoneTo : GoodIn wsX7_isDone (wsV RX7 266 RX7 yX7_isDoneTo wsX7_isDoneTo) := goodIn_app (goodIn_of _ (by decide +kernel)) ggX7_isDone_X7_isDoneTo
theorem dX7_isDone_0 : decode cX7_isDone 0 = .ok (.iload_n 1, 1) := by decide +kernel
theorem dX7_isDone_1 : decode cX7_isDone 1 = .ok (.tableswitch 84 0 6 #[43, 84, 84, 84, 53, 64, 75], 43) := by decide +kernel
theorem dX7_isDone_44 : decode cX7_isDone 44 = .ok (.aload_n 0, 1) := by decide +kernel
theorem dX7_isDone_45 : decode cX7_isDone 45 = .ok (.lload_n 2, 1) := by decide +kernel
theorem dX7_isDone_46 : decode cX7_isDone 46 = .ok (.iload 4, 2) := by decide +kernel
theorem dX7_isDone_48 : decode cX7_isDone 48 = .ok (.iload 5, 2) := by decide +kernel
theorem dX7_isDone_50 : decode cX7_isDone 50 = .ok (.invokevirtual 155, 3) := by decide +kernel
theorem dX7_isDone_53 : decode cX7_isDone 53 = .ok (.ireturn, 1) := by decide +kernel
theorem dX7_isDone_54 : decode cX7_isDone 54 = .ok (.aload_n 0, 1) := by decide +kernel
theorem dX7_isDone_55 : decode cX7_isDone 55 = .ok (.getfield 10, 3) := by decide +kernel
theorem dX7_isDone_58 : decode cX7_isDone 58 = .ok (.iload 4, 2) := by decide +kernel
theorem dX7_isDone_60 : decode cX7_isDone 60 = .ok (.putfield 130, 3) := by decide +kernel
theorem dX7_isDone_63 : decode cX7_isDone 63 = .ok (.iconst 1, 1) := by decide +kernel
theorem dX7_isDone_64 : decode cX7_isDone 64 = .ok (.ireturn, 1) := by decide +kernel
theorem dX7_isDone_65 : decode cX7_isDone 65 = .ok (.aload_n 0, 1) := by decide +kernel
theorem dX7_isDone_66 : decode cX7_isDone 66 = .ok (.getfield 10, 3) := by decide +kernel
theorem dX7_isDone_69 : decode cX7_isDone 69 = .ok (.iload 4, 2) := by decide +kernel
theorem dX7_isDone_71 : decode cX7_isDone 71 = .ok (.putfield 133, 3) := by decide +kernel
theorem dX7_isDone_74 : decode cX7_isDone 74 = .ok (.iconst 1, 1) := by decide +kernel
theorem dX7_isDone_75 : decode cX7_isDone 75 = .ok (.ireturn, 1) := by decide +kernel
theorem dX7_isDone_76 : decode cX7_isDone 76 = .ok (.aload_n 0, 1) := by decide +kernel
theorem dX7_isDone_77 : decode cX7_isDone 77 = .ok (.getfield 10, 3) := by decide +kernel
theorem dX7_isDone_80 : decode cX7_isDone 80 = .ok (.invokevirtual 136, 3) := by decide +kernel
theorem dX7_isDone_83 : decode cX7_isDone 83 = .ok (.iconst 1, 1) := by decide +kernel
theorem dX7_isDone_84 : decode cX7_isDone 84 = .ok (.ireturn, 1) := by decide +kernel
theorem dX7_isDone_85 : decode cX7_isDone 85 = .ok (.aload_n 0, 1) := by decide +kernel
theorem dX7_isDone_86 : decode cX7_isDone 86 = .ok (.aload_n 0, 1) := by decide +kernel
theorem dX7_isDone_87 : decode cX7_isDone 87 = .ok (.getfield 10, 3) := by decide +kernel
theorem dX7_isDone_90 : decode cX7_isDone 90 = .ok (.lload_n 2, 1) := by decide +kernel
theorem dX7_isDone_91 : decode cX7_isDone 91 = .ok (.invokevirtual 96, 3) := by decide +kernel
theorem dX7_isDone_94 : decode cX7_isDone 94 = .ok (.iload_n 1, 1) := by decide +kernel
theorem dX7_isDone_95 : decode cX7_isDone 95 = .ok (.iload 4, 2) := by decide +kernel
theorem dX7_isDone_97 : decode cX7_isDone 97 = .ok (.invokevirtual 266, 3) := by decide +kernel
theorem dX7_isDone_100 : decode cX7_isDone 100 = .ok (.ireturn, 1) := by decide +kernel
set_option maxRecDepth 20000 in
theorem ggX7_isDoneTo_X7_choose : GoodIn wsX7_isDoneTo wsX7_choose := goodIn_r _ [7, 8, 9, 10, 11, 12, 1, 13, 2, 14, 15, 16, 17, 18, 19, 20, 21, 22, 23, 24, 25, 26, 43, 44, 45, 46, 47, 48, 49, 50, 51, 52, 53, 54, 55, 56, 57, 58, 59, 60, 61] (by decide +kernel) (by decide +kernel)
set_option maxRecDepth 20000 in
theorem gX7_isDoneTo_X7_choose : GoodIn wsX7_isDoneTo (wsV RX7 119 RX7 yX7_choose wsX7_choose) := goodIn_app (goodIn_of _ (by decide +kernel)) ggX7_isDoneTo_X7_choose
set_option maxRecDepth 20000 in
theorem ggX7_isDoneTo_X0_takeOut : GoodIn wsX7_isDoneTo wsX0_takeOut := goodIn_r _ [31, 32, 33, 34, 35, 30, 36, 37, 38, 39, 40, 41, 42, 52, 53, 54, 55, 56, 57, 58, 59, 60, 61] (by decide +kernel) (by decide +kernel)
set_option maxRecDepth 20000 in
theorem gX7_isDoneTo_X0_takeOut : GoodIn wsX7_isDoneTo (wsV RX7 126 RX0 yX0_takeOut wsX0_takeOut) := goodIn_app (goodIn_of _ (by decide +kernel)) ggX7_isDoneTo_X0_takeOut
theorem dX7_isDoneTo_0 : decode cX7_isDoneTo 0 = .ok (.iload_n 1, 1) := by decide +kernel
theorem dX7_isDoneTo_1 : decode cX7_isDoneTo 1 = .ok (.iconst (-1), 1) := by decide +kernel
theorem dX7_isDoneTo_2 : decode cX7_isDoneTo 2 = .ok (.if_icmp .ne 5, 3) := by decide +kernel
theorem dX7_isDoneTo_5 : decode cX7_isDoneTo 5 = .ok (.iconst 0, 1) := by decide +kernel
theorem dX7_isDoneTo_6 : decode cX7_isDoneTo 6 = .ok (.ireturn, 1) := by decide +kernel
theorem dX7_isDoneTo_7 : decode cX7_isDoneTo 7 = .ok (.iload_n 2, 1) := by decide +kernel
theorem dX7_isDoneTo_8 : decode cX7_isDoneTo 8 = .ok (.tableswitch 58 1 3 #[28, 36, 48], 28) := by decide +kernel
theorem dX7_isDoneTo_36 : decode cX7_isDoneTo 36 = .ok (.aload_n 0, 1) := by decide +kernel
theorem dX7_isDoneTo_37 : decode cX7_isDoneTo 37 = .ok (.iload_n 1, 1) := by decide +kernel
theorem dX7_isDoneTo_38 : decode cX7_isDoneTo 38 = .ok (.invokevirtual 119, 3) := by decide +kernel
theorem dX7_isDoneTo_41 : decode cX7_isDoneTo 41 = .ok (.pop, 1) := by decide +kernel
theorem dX7_isDoneTo_42 : decode cX7_isDoneTo 42 = .ok (.iconst 1, 1) := by decide +kernel
theorem dX7_isDoneTo_43 : decode cX7_isDoneTo 43 = .ok (.ireturn, 1) := by decide +kernel
theorem dX7_isDoneTo_44 : decode cX7_isDoneTo 44 = .ok (.aload_n 0, 1) := by decide +kernel
theorem dX7_isDoneTo_45 : decode cX7_isDoneTo 45 = .ok (.getfield 10, 3) := by decide +kernel
theorem dX7_isDoneTo_48 : decode cX7_isDoneTo 48 = .ok (.getfield 122, 3) := by decide +kernel
theorem dX7_isDoneTo_51 : decode cX7_isDoneTo 51 = .ok (.iload_n 1, 1) := by decide +kernel
theorem dX7_isDoneTo_52 : decode cX7_isDoneTo 52 = .ok (.iload_n 3, 1) := by decide +kernel
theorem dX7_isDoneTo_53 : decode cX7_isDoneTo 53 = .ok (.iastore, 1) := by decide +kernel
theorem dX7_isDoneTo_54 : decode cX7_isDoneTo 54 = .ok (.iconst 1, 1) := by decide +kernel
theorem dX7_isDoneTo_55 : decode cX7_isDoneTo 55 = .ok (.ireturn, 1) := by decide +kernel
theorem dX7_isDoneTo_56 : decode cX7_isDoneTo 56 = .ok (.aload_n 0, 1) := by decide +kernel
theorem dX7_isDoneTo_57 : decode cX7_isDoneTo 57 = .ok (.getfield 10, 3) := by decide +kernel
theorem dX7_isDoneTo_60 : decode cX7_isDoneTo 60 = .ok (.iload_n 1, 1) := by decide +kernel
theorem dX7_isDoneTo_61 : decode cX7_isDoneTo 61 = .ok (.invokevirtual 126, 3) := by decide +kernel
theorem dX7_isDoneTo_64 : decode cX7_isDoneTo 64 = .ok (.iconst 1, 1) := by decide +kernel
theorem dX7_isDoneTo_65 : decode cX7_isDoneTo 65 = .ok (.ireturn, 1) := by decide +kernel
theorem dX7_isDoneTo_66 : decode cX7_isDoneTo 66 = .ok (.iconst 0, 1) := by decide +kernel
theorem dX7_isDoneTo_67 : decode cX7_isDoneTo 67 = .ok (.ireturn, 1) := by decide +kernel
set_option maxRecDepth 20000 in
theorem ggX7_howMany_X6_lengthOf : GoodIn wsX7_howMany wsX6_lengthOf := goodIn_r _ [18, 19, 20, 21, 22, 23, 24, 25, 26, 27] (by decide +kernel) (by decide +kernel)
set_option maxRecDepth 20000 in
theorem gX7_howMany_X6_lengthOf : GoodIn wsX7_howMany (va_wsS RX7 69 yX6_lengthOf wsX6_lengthOf) := goodIn_app (goodIn_of _ (by decide +kernel)) ggX7_howMany_X6_lengthOf
theorem dX7_howMany_0 : decode cX7_howMany 0 = .ok (.iload_n 1, 1) := by decide +kernel
theorem dX7_howMany_1 : decode cX7_howMany 1 = .ok (.tableswitch 126 0 9 #[55, 63, 71, 76, 84, 92, 100, 108, 116, 121], 55) := by decide +kernel
theorem dX7_howMany_56 : decode cX7_howMany 56 = .ok (.aload_n 0, 1) := by decide +kernel
theorem dX7_howMany_57 : decode cX7_howMany 57 = .ok (.getfield 10, 3) := by decide +kernel
theorem dX7_howMany_60 : decode cX7_howMany 60 = .ok (.getfield 139, 3) := by decide +kernel
theorem dX7_howMany_63 : decode cX7_howMany 63 = .ok (.ireturn, 1) := by decide +kernel
theorem dX7_howMany_64 : decode cX7_howMany 64 = .ok (.aload_n 0, 1) := by decide +kernel
theorem dX7_howMany_65 : decode cX7_howMany 65 = .ok (.getfield 10, 3) := by decide +kernel
theorem dX7_howMany_68 : decode cX7_howMany 68 = .ok (.getfield 269, 3) := by decide +kernel
theorem dX7_howMany_71 : decode cX7_howMany 71 = .ok (.ireturn, 1) := by decide +kernel
theorem dX7_howMany_72 : decode cX7_howMany 72 = .ok (.aload_n 0, 1) := by decide +kernel
theorem dX7_howMany_73 : decode cX7_howMany 73 = .ok (.getfield 41, 3) := by decide +kernel
theorem dX7_howMany_76 : decode cX7_howMany 76 = .ok (.ireturn, 1) := by decide +kernel
theorem dX7_howMany_77 : decode cX7_howMany 77 = .ok (.aload_n 0, 1) := by decide +kernel
theorem dX7_howMany_78 : decode cX7_howMany 78 = .ok (.getfield 10, 3) := by decide +kernel
theorem dX7_howMany_81 : decode cX7_howMany 81 = .ok (.getfield 130, 3) := by decide +kernel
theorem dX7_howMany_84 : decode cX7_howMany 84 = .ok (.ireturn, 1) := by decide +kernel
theorem dX7_howMany_85 : decode cX7_howMany 85 = .ok (.aload_n 0, 1) := by decide +kernel
theorem dX7_howMany_86 : decode cX7_howMany 86 = .ok (.getfield 10, 3) := by decide +kernel
theorem dX7_howMany_89 : decode cX7_howMany 89 = .ok (.getfield 133, 3) := by decide +kernel
theorem dX7_howMany_92 : decode cX7_howMany 92 = .ok (.ireturn, 1) := by decide +kernel
theorem dX7_howMany_93 : decode cX7_howMany 93 = .ok (.aload_n 0, 1) := by decide +kernel
theorem dX7_howMany_94 : decode cX7_howMany 94 = .ok (.getfield 37, 3) := by decide +kernel
theorem dX7_howMany_97 : decode cX7_howMany 97 = .ok (.invokestatic 69, 3) := by decide +kernel
theorem dX7_howMany_100 : decode cX7_howMany 100 = .ok (.ireturn, 1) := by decide +kernel
theorem dX7_howMany_101 : decode cX7_howMany 101 = .ok (.aload_n 0, 1) := by decide +kernel
theorem dX7_howMany_102 : decode cX7_howMany 102 = .ok (.getfield 19, 3) := by decide +kernel
theorem dX7_howMany_105 : decode cX7_howMany 105 = .ok (.getfield 159, 3) := by decide +kernel
theorem dX7_howMany_108 : decode cX7_howMany 108 = .ok (.ireturn, 1) := by decide +kernel
theorem dX7_howMany_109 : decode cX7_howMany 109 = .ok (.aload_n 0, 1) := by decide +kernel
theorem dX7_howMany_110 : decode cX7_howMany 110 = .ok (.getfield 33, 3) := by decide +kernel
theorem dX7_howMany_113 : decode cX7_howMany 113 = .ok (.getfield 208, 3) := by decide +kernel
theorem dX7_howMany_116 : decode cX7_howMany 116 = .ok (.ireturn, 1) := by decide +kernel
theorem dX7_howMany_117 : decode cX7_howMany 117 = .ok (.aload_n 0, 1) := by decide +kernel
theorem dX7_howMany_118 : decode cX7_howMany 118 = .ok (.getfield 45, 3) := by decide +kernel
theorem dX7_howMany_121 : decode cX7_howMany 121 = .ok (.ireturn, 1) := by decide +kernel
theorem dX7_howMany_122 : decode cX7_howMany 122 = .ok (.aload_n 0, 1) := by decide +kernel
theorem dX7_howMany_123 : decode cX7_howMany 123 = .ok (.getfield 48, 3) := by decide +kernel
theorem dX7_howMany_126 : decode cX7_howMany 126 = .ok (.ireturn, 1) := by decide +kernel
theorem dX7_howMany_127 : decode cX7_howMany 127 = .ok (.aload_n 0, 1) := by decide +kernel
theorem dX7_howMany_128 : decode cX7_howMany 128 = .ok (.getfield 51, 3) := by decide +kernel
theorem dX7_howMany_131 : decode cX7_howMany 131 = .ok (.ireturn, 1) := by decide +kernel
set_option maxRecDepth 20000 in
theorem ggX8_init_X8_start : GoodIn wsX8_init wsX8_start := goodIn_r _ [19, 5, 20, 21, 22, 23, 10, 24, 25, 26, 27, 28, 29, 30, 31, 32, 33, 34, 35, 36, 37, 38, 39, 40, 41] (by decide +kernel) (by decide +kernel)
set_option maxRecDepth 20000 in
theorem gX8_init_X8_start : GoodIn wsX8_init (wsV RX8 38 RX8 yX8_start wsX8_start) := goodIn_app (goodIn_of _ (by decide +kernel)) ggX8_init_X8_start
theorem dX8_init_0 : decode cX8_init 0 = .ok (.aload_n 0, 1) := by decide +kernel
theorem dX8_init_1 : decode cX8_init 1 = .ok (.invokespecial 1, 3) := by decide +kernel
theorem dX8_init_4 : decode cX8_init 4 = .ok (.aload_n 0, 1) := by decide +kernel
theorem dX8_init_5 : decode cX8_init 5 = .ok (.sipush 2803, 3) := by decide +kernel
theorem dX8_init_8 : decode cX8_init 8 = .ok (.newarray .int, 2) := by decide +kernel
theorem dX8_init_10 : decode cX8_init 10 = .ok (.putfield 7, 3) := by decide +kernel
theorem dX8_init_13 : decode cX8_init 13 = .ok (.aload_n 0, 1) := by decide +kernel
theorem dX8_init_14 : decode cX8_init 14 = .ok (.ldc 13, 2) := by decide +kernel
theorem dX8_init_16 : decode cX8_init 16 = .ok (.newarray .int, 2) := by decide +kernel
theorem dX8_init_18 : decode cX8_init 18 = .ok (.putfield 14, 3) := by decide +kernel
theorem dX8_init_21 : decode cX8_init 21 = .ok (.aload_n 0, 1) := by decide +kernel
theorem dX8_init_22 : decode cX8_init 22 = .ok (.bipush 12, 2) := by decide +kernel
theorem dX8_init_24 : decode cX8_init 24 = .ok (.newarray .int, 2) := by decide +kernel
theorem dX8_init_26 : decode cX8_init 26 = .ok (.putfield 17, 3) := by decide +kernel
theorem dX8_init_29 : decode cX8_init 29 = .ok (.aload_n 0, 1) := by decide +kernel
theorem dX8_init_30 : decode cX8_init 30 = .ok (.bipush 120, 2) := by decide +kernel
theorem dX8_init_32 : decode cX8_init 32 = .ok (.newarray .int, 2) := by decide +kernel
theorem dX8_init_34 : decode cX8_init 34 = .ok (.putfield 20, 3) := by decide +kernel
theorem dX8_init_37 : decode cX8_init 37 = .ok (.aload_n 0, 1) := by decide +kernel
theorem dX8_init_38 : decode cX8_init 38 = .ok (.iconst 3, 1) := by decide +kernel
theorem dX8_init_39 : decode cX8_init 39 = .ok (.newarray .int, 2) := by decide +kernel
theorem dX8_init_41 : decode cX8_init 41 = .ok (.putfield 23, 3) := by decide +kernel
theorem dX8_init_44 : decode cX8_init 44 = .ok (.aload_n 0, 1) := by decide +kernel
theorem dX8_init_45 : decode cX8_init 45 = .ok (.bipush 8, 2) := by decide +kernel
theorem dX8_init_47 : decode cX8_init 47 = .ok (.newarray .int, 2) := by decide +kernel
theorem dX8_init_49 : decode cX8_init 49 = .ok (.putfield 26, 3) := by decide +kernel
theorem dX8_init_52 : decode cX8_init 52 = .ok (.aload_n 0, 1) := by decide +kernel
theorem dX8_init_53 : decode cX8_init 53 = .ok (.sipush 200, 3) := by decide +kernel
theorem dX8_init_56 : decode cX8_init 56 = .ok (.newarray .int, 2) := by decide +kernel
theorem dX8_init_58 : decode cX8_init 58 = .ok (.putfield 29, 3) := by decide +kernel
theorem dX8_init_61 : decode cX8_init 61 = .ok (.aload_n 0, 1) := by decide +kernel
theorem dX8_init_62 : decode cX8_init 62 = .ok (.bipush 8, 2) := by decide +kernel
theorem dX8_init_64 : decode cX8_init 64 = .ok (.newarray .int, 2) := by decide +kernel
theorem dX8_init_66 : decode cX8_init 66 = .ok (.putfield 32, 3) := by decide +kernel
theorem dX8_init_69 : decode cX8_init 69 = .ok (.aload_n 0, 1) := by decide +kernel
theorem dX8_init_70 : decode cX8_init 70 = .ok (.sipush 480, 3) := by decide +kernel
theorem dX8_init_73 : decode cX8_init 73 = .ok (.newarray .int, 2) := by decide +kernel
theorem dX8_init_75 : decode cX8_init 75 = .ok (.putfield 35, 3) := by decide +kernel
theorem dX8_init_78 : decode cX8_init 78 = .ok (.aload_n 0, 1) := by decide +kernel
theorem dX8_init_79 : decode cX8_init 79 = .ok (.invokevirtual 38, 3) := by decide +kernel
theorem dX8_init_82 : decode cX8_init 82 = .ok (.pop, 1) := by decide +kernel
theorem dX8_init_83 : decode cX8_init 83 = .ok (.return_, 1) := by decide +kernel
theorem dX8_in_0 : decode cX8_in 0 = .ok (.iload_n 0, 1) := by decide +kernel
theorem dX8_in_1 : decode cX8_in 1 = .ok (.iload_n 1, 1) := by decide +kernel
theorem dX8_in_2 : decode cX8_in 2 = .ok (.if_icmp .lt 12, 3) := by decide +kernel
theorem dX8_in_5 : decode cX8_in 5 = .ok (.iload_n 0, 1) := by decide +kernel
theorem dX8_in_6 : decode cX8_in 6 = .ok (.iload_n 2, 1) := by decide +kernel
theorem dX8_in_7 : decode cX8_in 7 = .ok (.if_icmp .gt 7, 3) := by decide +kernel
theorem dX8_in_10 : decode cX8_in 10 = .ok (.iconst 1, 1) := by decide +kernel
theorem dX8_in_11 : decode cX8_in 11 = .ok (.goto 4, 3) := by decide +kernel
theorem dX8_in_14 : decode cX8_in 14 = .ok (.iconst 0, 1) := by decide +kernel
theorem dX8_in_15 : decode cX8_in 15 = .ok (.ireturn, 1) := by decide +kernel
theorem dX8_bring_0 : decode cX8_bring 0 = .ok (.iconst 0, 1) := by decide +kernel
theorem dX8_bring_1 : decode cX8_bring 1 = .ok (.istore 5, 2) := by decide +kernel
theorem dX8_bring_3 : decode cX8_bring 3 = .ok (.iload 5, 2) := by decide +kernel
theorem dX8_bring_5 : decode cX8_bring 5 = .ok (.iload 4, 2) := by decide +kernel
theorem dX8_bring_7 : decode cX8_bring 7 = .ok (.if_icmp .ge 21, 3) := by decide +kernel
theorem dX8_bring_10 : decode cX8_bring 10 = .ok (.aload_n 2, 1) := by decide +kernel
theorem dX8_bring_11 : decode cX8_bring 11 = .ok (.iload_n 3, 1) := by decide +kernel
theorem dX8_bring_12 : decode cX8_bring 12 = .ok (.iload 5, 2) := by decide +kernel
theorem dX8_bring_14 : decode cX8_bring 14 = .ok (.iadd, 1) := by decide +kernel
theorem dX8_bring_15 : decode cX8_bring 15 = .ok (.aload_n 0, 1) := by decide +kernel
theorem dX8_bring_16 : decode cX8_bring 16 = .ok (.iload_n 1, 1) := by decide +kernel
theorem dX8_bring_17 : decode cX8_bring 17 = .ok (.iload 5, 2) := by decide +kernel
theorem dX8_bring_19 : decode cX8_bring 19 = .ok (.iadd, 1) := by decide +kernel
theorem dX8_bring_20 : decode cX8_bring 20 = .ok (.iaload, 1) := by decide +kernel
theorem dX8_bring_21 : decode cX8_bring 21 = .ok (.iastore, 1) := by decide +kernel
theorem dX8_bring_22 : decode cX8_bring 22 = .ok (.iinc 5 1, 3) := by decide +kernel
theorem dX8_bring_25 : decode cX8_bring 25 = .ok (.goto (-22), 3) := by decide +kernel
theorem dX8_bring_28 : decode cX8_bring 28 = .ok (.return_, 1) := by decide +kernel
theorem dX8_bad_0 : decode cX8_bad 0 = .ok (.aload_n 0, 1) := by decide +kernel
theorem dX8_bad_1 : decode cX8_bad 1 = .ok (.getfield 23, 3) := by decide +kernel
theorem dX8_bad_4 : decode cX8_bad 4 = .ok (.iconst 0, 1) := by decide +kernel
theorem dX8_bad_5 : decode cX8_bad 5 = .ok (.dup2, 1) := by decide +kernel
theorem dX8_bad_6 : decode cX8_bad 6 = .ok (.iaload, 1) := by decide +kernel
theorem dX8_bad_7 : decode cX8_bad 7 = .ok (.iconst 1, 1) := by decide +kernel
theorem dX8_bad_8 : decode cX8_bad 8 = .ok (.iadd, 1) := by decide +kernel
theorem dX8_bad_9 : decode cX8_bad 9 = .ok (.iastore, 1) := by decide +kernel
theorem dX8_bad_10 : decode cX8_bad 10 = .ok (.bipush (-2), 2) := by decide +kernel
theorem dX8_bad_12 : decode cX8_bad 12 = .ok (.ireturn, 1) := by decide +kernel
theorem dX8_no_0 : decode cX8_no 0 = .ok (.aload_n 0, 1) := by decide +kernel
theorem dX8_no_1 : decode cX8_no 1 = .ok (.getfield 23, 3) := by decide +kernel
theorem dX8_no_4 : decode cX8_no 4 = .ok (.iconst 1, 1) := by decide +kernel
theorem dX8_no_5 : decode cX8_no 5 = .ok (.dup2, 1) := by decide +kernel
theorem dX8_no_6 : decode cX8_no 6 = .ok (.iaload, 1) := by decide +kernel
theorem dX8_no_7 : decode cX8_no 7 = .ok (.iconst 1, 1) := by decide +kernel
theorem dX8_no_8 : decode cX8_no 8 = .ok (.iadd, 1) := by decide +kernel
theorem dX8_no_9 : decode cX8_no 9 = .ok (.iastore, 1) := by decide +kernel
theorem dX8_no_10 : decode cX8_no 10 = .ok (.bipush (-3), 2) := by decide +kernel
theorem dX8_no_12 : decode cX8_no 12 = .ok (.ireturn, 1) := by decide +kernel
theorem dX8_full_0 : decode cX8_full 0 = .ok (.aload_n 0, 1) := by decide +kernel
theorem dX8_full_1 : decode cX8_full 1 = .ok (.getfield 23, 3) := by decide +kernel
theorem dX8_full_4 : decode cX8_full 4 = .ok (.iconst 2, 1) := by decide +kernel
theorem dX8_full_5 : decode cX8_full 5 = .ok (.dup2, 1) := by decide +kernel
theorem dX8_full_6 : decode cX8_full 6 = .ok (.iaload, 1) := by decide +kernel
theorem dX8_full_7 : decode cX8_full 7 = .ok (.iconst 1, 1) := by decide +kernel
theorem dX8_full_8 : decode cX8_full 8 = .ok (.iadd, 1) := by decide +kernel
theorem dX8_full_9 : decode cX8_full 9 = .ok (.iastore, 1) := by decide +kernel
theorem dX8_full_10 : decode cX8_full 10 = .ok (.bipush (-4), 2) := by decide +kernel
theorem dX8_full_12 : decode cX8_full 12 = .ok (.ireturn, 1) := by decide +kernel
set_option maxRecDepth 20000 in
theorem ggX8_isThere_X8_in : GoodIn wsX8_isThere wsX8_in := goodIn_r _ [5] (by decide +kernel) (by decide +kernel)
set_option maxRecDepth 20000 in
theorem gX8_isThere_X8_in : GoodIn wsX8_isThere (va_wsS RX8 42 yX8_in wsX8_in) := goodIn_app (goodIn_of _ (by decide +kernel)) ggX8_isThere_X8_in
theorem dX8_isThere_0 : decode cX8_isThere 0 = .ok (.iload_n 1, 1) := by decide +kernel
theorem dX8_isThere_1 : decode cX8_isThere 1 = .ok (.iconst 0, 1) := by decide +kernel
theorem dX8_isThere_2 : decode cX8_isThere 2 = .ok (.aload_n 0, 1) := by decide +kernel
theorem dX8_isThere_3 : decode cX8_isThere 3 = .ok (.getfield 7, 3) := by decide +kernel
theorem dX8_isThere_6 : decode cX8_isThere 6 = .ok (.sipush 2800, 3) := by decide +kernel
theorem dX8_isThere_9 : decode cX8_isThere 9 = .ok (.iaload, 1) := by decide +kernel
theorem dX8_isThere_10 : decode cX8_isThere 10 = .ok (.iconst 1, 1) := by decide +kernel
theorem dX8_isThere_11 : decode cX8_isThere 11 = .ok (.isub, 1) := by decide +kernel
theorem dX8_isThere_12 : decode cX8_isThere 12 = .ok (.invokestatic 42, 3) := by decide +kernel
theorem dX8_isThere_15 : decode cX8_isThere 15 = .ok (.ifCond .eq 20, 3) := by decide +kernel
theorem dX8_isThere_18 : decode cX8_isThere 18 = .ok (.aload_n 0, 1) := by decide +kernel
theorem dX8_isThere_19 : decode cX8_isThere 19 = .ok (.getfield 7, 3) := by decide +kernel
theorem dX8_isThere_22 : decode cX8_isThere 22 = .ok (.bipush 14, 2) := by decide +kernel
theorem dX8_isThere_24 : decode cX8_isThere 24 = .ok (.iload_n 1, 1) := by decide +kernel
theorem dX8_isThere_25 : decode cX8_isThere 25 = .ok (.imul, 1) := by decide +kernel
theorem dX8_isThere_26 : decode cX8_isThere 26 = .ok (.iaload, 1) := by decide +kernel
theorem dX8_isThere_27 : decode cX8_isThere 27 = .ok (.iconst 1, 1) := by decide +kernel
theorem dX8_isThere_28 : decode cX8_isThere 28 = .ok (.if_icmp .ne 7, 3) := by decide +kernel
theorem dX8_isThere_31 : decode cX8_isThere 31 = .ok (.iconst 1, 1) := by decide +kernel
theorem dX8_isThere_32 : decode cX8_isThere 32 = .ok (.goto 4, 3) := by decide +kernel
theorem dX8_isThere_35 : decode cX8_isThere 35 = .ok (.iconst 0, 1) := by decide +kernel
theorem dX8_isThere_36 : decode cX8_isThere 36 = .ok (.ireturn, 1) := by decide +kernel
theorem dX8_start_0 : decode cX8_start 0 = .ok (.iconst 0, 1) := by decide +kernel
theorem dX8_start_1 : decode cX8_start 1 = .ok (.istore_n 1, 1) := by decide +kernel
theorem dX8_start_2 : decode cX8_start 2 = .ok (.iload_n 1, 1) := by decide +kernel
theorem dX8_start_3 : decode cX8_start 3 = .ok (.sipush 2803, 3) := by decide +kernel
theorem dX8_start_6 : decode cX8_start 6 = .ok (.if_icmp .ge 16, 3) := by decide +kernel
theorem dX8_start_9 : decode cX8_start 9 = .ok (.aload_n 0, 1) := by decide +kernel
theorem dX8_start_10 : decode cX8_start 10 = .ok (.getfield 7, 3) := by decide +kernel
theorem dX8_start_13 : decode cX8_start 13 = .ok (.iload_n 1, 1) := by decide +kernel
theorem dX8_start_14 : decode cX8_start 14 = .ok (.iconst 0, 1) := by decide +kernel
theorem dX8_start_15 : decode cX8_start 15 = .ok (.iastore, 1) := by decide +kernel
theorem dX8_start_16 : decode cX8_start 16 = .ok (.iinc 1 1, 3) := by decide +kernel
theorem dX8_start_19 : decode cX8_start 19 = .ok (.goto (-17), 3) := by decide +kernel
theorem dX8_start_22 : decode cX8_start 22 = .ok (.aload_n 0, 1) := by decide +kernel
theorem dX8_start_23 : decode cX8_start 23 = .ok (.getfield 7, 3) := by decide +kernel
theorem dX8_start_26 : decode cX8_start 26 = .ok (.sipush 2802, 3) := by decide +kernel
theorem dX8_start_29 : decode cX8_start 29 = .ok (.bipush 100, 2) := by decide +kernel
theorem dX8_start_31 : decode cX8_start 31 = .ok (.iastore, 1) := by decide +kernel
theorem dX8_start_32 : decode cX8_start 32 = .ok (.aload_n 0, 1) := by decide +kernel
theorem dX8_start_33 : decode cX8_start 33 = .ok (.iconst 0, 1) := by decide +kernel
theorem dX8_start_34 : decode cX8_start 34 = .ok (.putfield 46, 3) := by decide +kernel
theorem dX8_start_37 : decode cX8_start 37 = .ok (.aload_n 0, 1) := by decide +kernel
theorem dX8_start_38 : decode cX8_start 38 = .ok (.iconst 0, 1) := by decide +kernel
theorem dX8_start_39 : decode cX8_start 39 = .ok (.putfield 50, 3) := by decide +kernel
theorem dX8_start_42 : decode cX8_start 42 = .ok (.aload_n 0, 1) := by decide +kernel
theorem dX8_start_43 : decode cX8_start 43 = .ok (.iconst 0, 1) := by decide +kernel
theorem dX8_start_44 : decode cX8_start 44 = .ok (.putfield 53, 3) := by decide +kernel
theorem dX8_start_47 : decode cX8_start 47 = .ok (.aload_n 0, 1) := by decide +kernel
theorem dX8_start_48 : decode cX8_start 48 = .ok (.iconst 0, 1) := by decide +kernel
theorem dX8_start_49 : decode cX8_start 49 = .ok (.putfield 56, 3) := by decide +kernel
theorem dX8_start_52 : decode cX8_start 52 = .ok (.iconst 0, 1) := by decide +kernel
theorem dX8_start_53 : decode cX8_start 53 = .ok (.istore_n 1, 1) := by decide +kernel
theorem dX8_start_54 : decode cX8_start 54 = .ok (.iload_n 1, 1) := by decide +kernel
theorem dX8_start_55 : decode cX8_start 55 = .ok (.iconst 3, 1) := by decide +kernel
theorem dX8_start_56 : decode cX8_start 56 = .ok (.if_icmp .ge 16, 3) := by decide +kernel
theorem dX8_start_59 : decode cX8_start 59 = .ok (.aload_n 0, 1) := by decide +kernel
theorem dX8_start_60 : decode cX8_start 60 = .ok (.getfield 23, 3) := by decide +kernel
theorem dX8_start_63 : decode cX8_start 63 = .ok (.iload_n 1, 1) := by decide +kernel
theorem dX8_start_64 : decode cX8_start 64 = .ok (.iconst 0, 1) := by decide +kernel
theorem dX8_start_65 : decode cX8_start 65 = .ok (.iastore, 1) := by decide +kernel
theorem dX8_start_66 : decode cX8_start 66 = .ok (.iinc 1 1, 3) := by decide +kernel
theorem dX8_start_69 : decode cX8_start 69 = .ok (.goto (-15), 3) := by decide +kernel
theorem dX8_start_72 : decode cX8_start 72 = .ok (.iconst 1, 1) := by decide +kernel
theorem dX8_start_73 : decode cX8_start 73 = .ok (.ireturn, 1) := by decide +kernel
set_option maxRecDepth 20000 in
theorem ggX8_type_X8_in : GoodIn wsX8_type wsX8_in := goodIn_r _ [6] (by decide +kernel) (by decide +kernel)
set_option maxRecDepth 20000 in
theorem gX8_type_X8_in : GoodIn wsX8_type (va_wsS RX8 42 yX8_in wsX8_in) := goodIn_app (goodIn_of _ (by decide +kernel)) ggX8_type_X8_in
set_option maxRecDepth 20000 in
theorem ggX8_type_X8_bad : GoodIn wsX8_type wsX8_bad := goodIn_r _ [10, 11, 16, 17, 18, 19, 20, 21, 22, 23, 24, 25, 26, 27, 28, 29, 30, 31, 32, 33] (by decide +kernel) (by decide +kernel)
set_option maxRecDepth 20000 in
theorem gX8_type_X8_bad : GoodIn wsX8_type (wsV RX8 59 RX8 yX8_bad wsX8_bad) := goodIn_app (goodIn_of _ (by decide +kernel)) ggX8_type_X8_bad
set_option maxRecDepth 20000 in
theorem ggX8_type_X8_full : GoodIn wsX8_type wsX8_full := goodIn_r _ [15, 11, 16, 17, 18, 19, 20, 21, 22, 23, 24, 25, 26, 27, 28, 29, 30, 31, 32, 33] (by decide +kernel) (by decide +kernel)
set_option maxRecDepth 20000 in
theorem gX8_type_X8_full : GoodIn wsX8_type (wsV RX8 62 RX8 yX8_full wsX8_full) := goodIn_app (goodIn_of _ (by decide +kernel)) ggX8_type_X8_full
theorem dX8_type_0 : decode cX8_type 0 = .ok (.iload_n 1, 1) := by decide +kernel
theorem dX8_type_1 : decode cX8_type 1 = .ok (.iconst 0, 1) := by decide +kernel
theorem dX8_type_2 : decode cX8_type 2 = .ok (.bipush 7, 2) := by decide +kernel
theorem dX8_type_4 : decode cX8_type 4 = .ok (.invokestatic 42, 3) := by decide +kernel
theorem dX8_type_7 : decode cX8_type 7 = .ok (.ifCond .ne 8, 3) := by decide +kernel
theorem dX8_type_10 : decode cX8_type 10 = .ok (.aload_n 0, 1) := by decide +kernel
theorem dX8_type_11 : decode cX8_type 11 = .ok (.invokevirtual 59, 3) := by decide +kernel
theorem dX8_type_14 : decode cX8_type 14 = .ok (.ireturn, 1) := by decide +kernel
theorem dX8_type_15 : decode cX8_type 15 = .ok (.aload_n 0, 1) := by decide +kernel
theorem dX8_type_16 : decode cX8_type 16 = .ok (.getfield 53, 3) := by decide +kernel
theorem dX8_type_19 : decode cX8_type 19 = .ok (.bipush 12, 2) := by decide +kernel
theorem dX8_type_21 : decode cX8_type 21 = .ok (.if_icmp .ne 8, 3) := by decide +kernel
theorem dX8_type_24 : decode cX8_type 24 = .ok (.aload_n 0, 1) := by decide +kernel
theorem dX8_type_25 : decode cX8_type 25 = .ok (.invokevirtual 62, 3) := by decide +kernel
theorem dX8_type_28 : decode cX8_type 28 = .ok (.ireturn, 1) := by decide +kernel
theorem dX8_type_29 : decode cX8_type 29 = .ok (.aload_n 0, 1) := by decide +kernel
theorem dX8_type_30 : decode cX8_type 30 = .ok (.getfield 17, 3) := by decide +kernel
theorem dX8_type_33 : decode cX8_type 33 = .ok (.aload_n 0, 1) := by decide +kernel
theorem dX8_type_34 : decode cX8_type 34 = .ok (.getfield 53, 3) := by decide +kernel
theorem dX8_type_37 : decode cX8_type 37 = .ok (.iload_n 1, 1) := by decide +kernel
theorem dX8_type_38 : decode cX8_type 38 = .ok (.iastore, 1) := by decide +kernel
theorem dX8_type_39 : decode cX8_type 39 = .ok (.aload_n 0, 1) := by decide +kernel
theorem dX8_type_40 : decode cX8_type 40 = .ok (.dup, 1) := by decide +kernel
theorem dX8_type_41 : decode cX8_type 41 = .ok (.getfield 53, 3) := by decide +kernel
theorem dX8_type_44 : decode cX8_type 44 = .ok (.iconst 1, 1) := by decide +kernel
theorem dX8_type_45 : decode cX8_type 45 = .ok (.iadd, 1) := by decide +kernel
theorem dX8_type_46 : decode cX8_type 46 = .ok (.putfield 53, 3) := by decide +kernel
theorem dX8_type_49 : decode cX8_type 49 = .ok (.aload_n 0, 1) := by decide +kernel
theorem dX8_type_50 : decode cX8_type 50 = .ok (.getfield 53, 3) := by decide +kernel
theorem dX8_type_53 : decode cX8_type 53 = .ok (.ireturn, 1) := by decide +kernel
set_option maxRecDepth 20000 in
theorem ggX8_rub_X8_no : GoodIn wsX8_rub wsX8_no := goodIn_r _ [6, 7, 8, 9, 10, 11, 12, 13, 14, 15, 16, 17, 18, 19, 20, 21, 22, 23, 24, 25] (by decide +kernel) (by decide +kernel)
set_option maxRecDepth 20000 in
theorem gX8_rub_X8_no : GoodIn wsX8_rub (wsV RX8 65 RX8 yX8_no wsX8_no) := goodIn_app (goodIn_of _ (by decide +kernel)) ggX8_rub_X8_no
theorem dX8_rub_0 : decode cX8_rub 0 = .ok (.aload_n 0, 1) := by decide +kernel
theorem dX8_rub_1 : decode cX8_rub 1 = .ok (.getfield 53, 3) := by decide +kernel
theorem dX8_rub_4 : decode cX8_rub 4 = .ok (.ifCond .ne 8, 3) := by decide +kernel
theorem dX8_rub_7 : decode cX8_rub 7 = .ok (.aload_n 0, 1) := by decide +kernel
theorem dX8_rub_8 : decode cX8_rub 8 = .ok (.invokevirtual 65, 3) := by decide +kernel
theorem dX8_rub_11 : decode cX8_rub 11 = .ok (.ireturn, 1) := by decide +kernel
theorem dX8_rub_12 : decode cX8_rub 12 = .ok (.aload_n 0, 1) := by decide +kernel
theorem dX8_rub_13 : decode cX8_rub 13 = .ok (.dup, 1) := by decide +kernel
theorem dX8_rub_14 : decode cX8_rub 14 = .ok (.getfield 53, 3) := by decide +kernel
theorem dX8_rub_17 : decode cX8_rub 17 = .ok (.iconst 1, 1) := by decide +kernel
theorem dX8_rub_18 : decode cX8_rub 18 = .ok (.isub, 1) := by decide +kernel
theorem dX8_rub_19 : decode cX8_rub 19 = .ok (.putfield 53, 3) := by decide +kernel
theorem dX8_rub_22 : decode cX8_rub 22 = .ok (.aload_n 0, 1) := by decide +kernel
theorem dX8_rub_23 : decode cX8_rub 23 = .ok (.getfield 53, 3) := by decide +kernel
theorem dX8_rub_26 : decode cX8_rub 26 = .ok (.ireturn, 1) := by decide +kernel
set_option maxRecDepth 20000 in
theorem ggX8_types_X8_isThere : GoodIn wsX8_types wsX8_isThere := goodIn_r _ [8, 1, 9, 10, 7, 11, 20, 21, 22, 23, 24, 25, 26, 27, 28, 29, 30, 31, 32, 33, 34, 35, 36, 37] (by decide +kernel) (by decide +kernel)
set_option maxRecDepth 20000 in
theorem gX8_types_X8_isThere : GoodIn wsX8_types (wsV RX8 68 RX8 yX8_isThere wsX8_isThere) := goodIn_app (goodIn_of _ (by decide +kernel)) ggX8_types_X8_isThere
set_option maxRecDepth 20000 in
theorem ggX8_types_X8_in : GoodIn wsX8_types wsX8_in := goodIn_r _ [11] (by decide +kernel) (by decide +kernel)
set_option maxRecDepth 20000 in
theorem gX8_types_X8_in : GoodIn wsX8_types (va_wsS RX8 42 yX8_in wsX8_in) := goodIn_app (goodIn_of _ (by decide +kernel)) ggX8_types_X8_in
set_option maxRecDepth 20000 in
theorem ggX8_types_X8_bad : GoodIn wsX8_types wsX8_bad := goodIn_r _ [15, 16, 20, 21, 22, 23, 24, 25, 26, 27, 28, 29, 30, 31, 32, 33, 34, 35, 36, 37] (by decide +kernel) (by decide +kernel)
set_option maxRecDepth 20000 in
theorem gX8_types_X8_bad : GoodIn wsX8_types (wsV RX8 59 RX8 yX8_bad wsX8_bad) := goodIn_app (goodIn_of _ (by decide +kernel)) ggX8_types_X8_bad
set_option maxRecDepth 20000 in
theorem ggX8_types_X8_bring : GoodIn wsX8_types wsX8_bring := goodIn_r _ [19] (by decide +kernel) (by decide +kernel)
