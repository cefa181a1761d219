theorem dX8_laysRanks_43 : decode cX8_laysRanks 43 = .ok (.iaload, 1) := by decide +kernel
theorem dX8_laysRanks_44 : decode cX8_laysRanks 44 = .ok (.istore 4, 2) := by decide +kernel
theorem dX8_laysRanks_46 : decode cX8_laysRanks 46 = .ok (.aload_n 0, 1) := by decide +kernel
theorem dX8_laysRanks_47 : decode cX8_laysRanks 47 = .ok (.getfield 29, 3) := by decide +kernel
theorem dX8_laysRanks_50 : decode cX8_laysRanks 50 = .ok (.iload_n 2, 1) := by decide +kernel
theorem dX8_laysRanks_51 : decode cX8_laysRanks 51 = .ok (.iload_n 3, 1) := by decide +kernel
theorem dX8_laysRanks_52 : decode cX8_laysRanks 52 = .ok (.ifCond .eq 16, 3) := by decide +kernel
theorem dX8_laysRanks_55 : decode cX8_laysRanks 55 = .ok (.aload_n 0, 1) := by decide +kernel
theorem dX8_laysRanks_56 : decode cX8_laysRanks 56 = .ok (.iload_n 2, 1) := by decide +kernel
theorem dX8_laysRanks_57 : decode cX8_laysRanks 57 = .ok (.invokevirtual 138, 3) := by decide +kernel
theorem dX8_laysRanks_60 : decode cX8_laysRanks 60 = .ok (.ifCond .eq 8, 3) := by decide +kernel
theorem dX8_laysRanks_63 : decode cX8_laysRanks 63 = .ok (.iload 4, 2) := by decide +kernel
theorem dX8_laysRanks_65 : decode cX8_laysRanks 65 = .ok (.goto 35, 3) := by decide +kernel
theorem dX8_laysRanks_68 : decode cX8_laysRanks 68 = .ok (.iload_n 3, 1) := by decide +kernel
theorem dX8_laysRanks_69 : decode cX8_laysRanks 69 = .ok (.ifCond .eq 29, 3) := by decide +kernel
theorem dX8_laysRanks_72 : decode cX8_laysRanks 72 = .ok (.iload_n 1, 1) := by decide +kernel
theorem dX8_laysRanks_73 : decode cX8_laysRanks 73 = .ok (.ifCond .eq 25, 3) := by decide +kernel
theorem dX8_laysRanks_76 : decode cX8_laysRanks 76 = .ok (.aload_n 0, 1) := by decide +kernel
theorem dX8_laysRanks_77 : decode cX8_laysRanks 77 = .ok (.iload_n 2, 1) := by decide +kernel
theorem dX8_laysRanks_78 : decode cX8_laysRanks 78 = .ok (.invokevirtual 141, 3) := by decide +kernel
theorem dX8_laysRanks_81 : decode cX8_laysRanks 81 = .ok (.ifCond .eq 17, 3) := by decide +kernel
theorem dX8_laysRanks_84 : decode cX8_laysRanks 84 = .ok (.iload 4, 2) := by decide +kernel
theorem dX8_laysRanks_86 : decode cX8_laysRanks 86 = .ok (.aload_n 0, 1) := by decide +kernel
theorem dX8_laysRanks_87 : decode cX8_laysRanks 87 = .ok (.getfield 7, 3) := by decide +kernel
theorem dX8_laysRanks_90 : decode cX8_laysRanks 90 = .ok (.sipush 2802, 3) := by decide +kernel
theorem dX8_laysRanks_93 : decode cX8_laysRanks 93 = .ok (.iaload, 1) := by decide +kernel
theorem dX8_laysRanks_94 : decode cX8_laysRanks 94 = .ok (.isub, 1) := by decide +kernel
theorem dX8_laysRanks_95 : decode cX8_laysRanks 95 = .ok (.goto 5, 3) := by decide +kernel
theorem dX8_laysRanks_98 : decode cX8_laysRanks 98 = .ok (.ldc 144, 2) := by decide +kernel
theorem dX8_laysRanks_100 : decode cX8_laysRanks 100 = .ok (.iastore, 1) := by decide +kernel
theorem dX8_laysRanks_101 : decode cX8_laysRanks 101 = .ok (.iinc 2 1, 3) := by decide +kernel
theorem dX8_laysRanks_104 : decode cX8_laysRanks 104 = .ok (.goto (-102), 3) := by decide +kernel
theorem dX8_laysRanks_107 : decode cX8_laysRanks 107 = .ok (.return_, 1) := by decide +kernel
theorem dX8_isAhead_0 : decode cX8_isAhead 0 = .ok (.aload_n 0, 1) := by decide +kernel
theorem dX8_isAhead_1 : decode cX8_isAhead 1 = .ok (.getfield 29, 3) := by decide +kernel
theorem dX8_isAhead_4 : decode cX8_isAhead 4 = .ok (.iload_n 1, 1) := by decide +kernel
theorem dX8_isAhead_5 : decode cX8_isAhead 5 = .ok (.iaload, 1) := by decide +kernel
theorem dX8_isAhead_6 : decode cX8_isAhead 6 = .ok (.aload_n 0, 1) := by decide +kernel
theorem dX8_isAhead_7 : decode cX8_isAhead 7 = .ok (.getfield 29, 3) := by decide +kernel
theorem dX8_isAhead_10 : decode cX8_isAhead 10 = .ok (.iload_n 2, 1) := by decide +kernel
theorem dX8_isAhead_11 : decode cX8_isAhead 11 = .ok (.iaload, 1) := by decide +kernel
theorem dX8_isAhead_12 : decode cX8_isAhead 12 = .ok (.if_icmp .gt 23, 3) := by decide +kernel
theorem dX8_isAhead_15 : decode cX8_isAhead 15 = .ok (.aload_n 0, 1) := by decide +kernel
theorem dX8_isAhead_16 : decode cX8_isAhead 16 = .ok (.getfield 29, 3) := by decide +kernel
theorem dX8_isAhead_19 : decode cX8_isAhead 19 = .ok (.iload_n 1, 1) := by decide +kernel
theorem dX8_isAhead_20 : decode cX8_isAhead 20 = .ok (.iaload, 1) := by decide +kernel
theorem dX8_isAhead_21 : decode cX8_isAhead 21 = .ok (.aload_n 0, 1) := by decide +kernel
theorem dX8_isAhead_22 : decode cX8_isAhead 22 = .ok (.getfield 29, 3) := by decide +kernel
theorem dX8_isAhead_25 : decode cX8_isAhead 25 = .ok (.iload_n 2, 1) := by decide +kernel
theorem dX8_isAhead_26 : decode cX8_isAhead 26 = .ok (.iaload, 1) := by decide +kernel
theorem dX8_isAhead_27 : decode cX8_isAhead 27 = .ok (.if_icmp .ne 12, 3) := by decide +kernel
theorem dX8_isAhead_30 : decode cX8_isAhead 30 = .ok (.iload_n 1, 1) := by decide +kernel
theorem dX8_isAhead_31 : decode cX8_isAhead 31 = .ok (.iload_n 2, 1) := by decide +kernel
theorem dX8_isAhead_32 : decode cX8_isAhead 32 = .ok (.if_icmp .ge 7, 3) := by decide +kernel
theorem dX8_isAhead_35 : decode cX8_isAhead 35 = .ok (.iconst 1, 1) := by decide +kernel
theorem dX8_isAhead_36 : decode cX8_isAhead 36 = .ok (.goto 4, 3) := by decide +kernel
theorem dX8_isAhead_39 : decode cX8_isAhead 39 = .ok (.iconst 0, 1) := by decide +kernel
theorem dX8_isAhead_40 : decode cX8_isAhead 40 = .ok (.ireturn, 1) := by decide +kernel
set_option maxRecDepth 20000 in
theorem ggX8_isTold_X8_isAhead : GoodIn wsX8_isTold wsX8_isAhead := goodIn_r _ [8, 1, 9, 10, 11, 12, 13, 14, 15, 16, 17, 18, 19, 20, 21, 22, 23, 24, 25, 26] (by decide +kernel) (by decide +kernel)
set_option maxRecDepth 20000 in
theorem gX8_isTold_X8_isAhead : GoodIn wsX8_isTold (wsV RX8 145 RX8 yX8_isAhead wsX8_isAhead) := goodIn_app (goodIn_of _ (by decide +kernel)) ggX8_isTold_X8_isAhead
theorem dX8_isTold_0 : decode cX8_isTold 0 = .ok (.aload_n 0, 1) := by decide +kernel
theorem dX8_isTold_1 : decode cX8_isTold 1 = .ok (.getfield 29, 3) := by decide +kernel
theorem dX8_isTold_4 : decode cX8_isTold 4 = .ok (.iload_n 1, 1) := by decide +kernel
theorem dX8_isTold_5 : decode cX8_isTold 5 = .ok (.iaload, 1) := by decide +kernel
theorem dX8_isTold_6 : decode cX8_isTold 6 = .ok (.ldc 144, 2) := by decide +kernel
theorem dX8_isTold_8 : decode cX8_isTold 8 = .ok (.if_icmp .eq 7, 3) := by decide +kernel
theorem dX8_isTold_11 : decode cX8_isTold 11 = .ok (.iconst 1, 1) := by decide +kernel
theorem dX8_isTold_12 : decode cX8_isTold 12 = .ok (.goto 4, 3) := by decide +kernel
theorem dX8_isTold_15 : decode cX8_isTold 15 = .ok (.iconst 0, 1) := by decide +kernel
theorem dX8_isTold_16 : decode cX8_isTold 16 = .ok (.istore_n 2, 1) := by decide +kernel
theorem dX8_isTold_17 : decode cX8_isTold 17 = .ok (.aload_n 0, 1) := by decide +kernel
theorem dX8_isTold_18 : decode cX8_isTold 18 = .ok (.getfield 7, 3) := by decide +kernel
theorem dX8_isTold_21 : decode cX8_isTold 21 = .ok (.bipush 14, 2) := by decide +kernel
theorem dX8_isTold_23 : decode cX8_isTold 23 = .ok (.iload_n 1, 1) := by decide +kernel
theorem dX8_isTold_24 : decode cX8_isTold 24 = .ok (.imul, 1) := by decide +kernel
theorem dX8_isTold_25 : decode cX8_isTold 25 = .ok (.iconst 2, 1) := by decide +kernel
theorem dX8_isTold_26 : decode cX8_isTold 26 = .ok (.iadd, 1) := by decide +kernel
theorem dX8_isTold_27 : decode cX8_isTold 27 = .ok (.iaload, 1) := by decide +kernel
theorem dX8_isTold_28 : decode cX8_isTold 28 = .ok (.istore_n 3, 1) := by decide +kernel
theorem dX8_isTold_29 : decode cX8_isTold 29 = .ok (.iconst 0, 1) := by decide +kernel
theorem dX8_isTold_30 : decode cX8_isTold 30 = .ok (.istore 4, 2) := by decide +kernel
theorem dX8_isTold_32 : decode cX8_isTold 32 = .ok (.iload 4, 2) := by decide +kernel
theorem dX8_isTold_34 : decode cX8_isTold 34 = .ok (.aload_n 0, 1) := by decide +kernel
theorem dX8_isTold_35 : decode cX8_isTold 35 = .ok (.getfield 7, 3) := by decide +kernel
theorem dX8_isTold_38 : decode cX8_isTold 38 = .ok (.sipush 2800, 3) := by decide +kernel
theorem dX8_isTold_41 : decode cX8_isTold 41 = .ok (.iaload, 1) := by decide +kernel
theorem dX8_isTold_42 : decode cX8_isTold 42 = .ok (.if_icmp .ge 67, 3) := by decide +kernel
theorem dX8_isTold_45 : decode cX8_isTold 45 = .ok (.iload_n 2, 1) := by decide +kernel
theorem dX8_isTold_46 : decode cX8_isTold 46 = .ok (.ifCond .eq 63, 3) := by decide +kernel
theorem dX8_isTold_49 : decode cX8_isTold 49 = .ok (.iload_n 3, 1) := by decide +kernel
theorem dX8_isTold_50 : decode cX8_isTold 50 = .ok (.ifCond .le 59, 3) := by decide +kernel
theorem dX8_isTold_53 : decode cX8_isTold 53 = .ok (.iload 4, 2) := by decide +kernel
theorem dX8_isTold_55 : decode cX8_isTold 55 = .ok (.iload_n 1, 1) := by decide +kernel
theorem dX8_isTold_56 : decode cX8_isTold 56 = .ok (.if_icmp .eq 41, 3) := by decide +kernel
theorem dX8_isTold_59 : decode cX8_isTold 59 = .ok (.aload_n 0, 1) := by decide +kernel
theorem dX8_isTold_60 : decode cX8_isTold 60 = .ok (.getfield 29, 3) := by decide +kernel
theorem dX8_isTold_63 : decode cX8_isTold 63 = .ok (.iload 4, 2) := by decide +kernel
theorem dX8_isTold_65 : decode cX8_isTold 65 = .ok (.iaload, 1) := by decide +kernel
theorem dX8_isTold_66 : decode cX8_isTold 66 = .ok (.ldc 144, 2) := by decide +kernel
theorem dX8_isTold_68 : decode cX8_isTold 68 = .ok (.if_icmp .eq 29, 3) := by decide +kernel
theorem dX8_isTold_71 : decode cX8_isTold 71 = .ok (.aload_n 0, 1) := by decide +kernel
theorem dX8_isTold_72 : decode cX8_isTold 72 = .ok (.getfield 7, 3) := by decide +kernel
theorem dX8_isTold_75 : decode cX8_isTold 75 = .ok (.bipush 14, 2) := by decide +kernel
theorem dX8_isTold_77 : decode cX8_isTold 77 = .ok (.iload 4, 2) := by decide +kernel
theorem dX8_isTold_79 : decode cX8_isTold 79 = .ok (.imul, 1) := by decide +kernel
theorem dX8_isTold_80 : decode cX8_isTold 80 = .ok (.iconst 2, 1) := by decide +kernel
theorem dX8_isTold_81 : decode cX8_isTold 81 = .ok (.iadd, 1) := by decide +kernel
theorem dX8_isTold_82 : decode cX8_isTold 82 = .ok (.iaload, 1) := by decide +kernel
theorem dX8_isTold_83 : decode cX8_isTold 83 = .ok (.iload_n 3, 1) := by decide +kernel
theorem dX8_isTold_84 : decode cX8_isTold 84 = .ok (.if_icmp .ne 13, 3) := by decide +kernel
theorem dX8_isTold_87 : decode cX8_isTold 87 = .ok (.aload_n 0, 1) := by decide +kernel
theorem dX8_isTold_88 : decode cX8_isTold 88 = .ok (.iload_n 1, 1) := by decide +kernel
theorem dX8_isTold_89 : decode cX8_isTold 89 = .ok (.iload 4, 2) := by decide +kernel
theorem dX8_isTold_91 : decode cX8_isTold 91 = .ok (.invokevirtual 145, 3) := by decide +kernel
theorem dX8_isTold_94 : decode cX8_isTold 94 = .ok (.ifCond .eq 7, 3) := by decide +kernel
theorem dX8_isTold_97 : decode cX8_isTold 97 = .ok (.iconst 1, 1) := by decide +kernel
theorem dX8_isTold_98 : decode cX8_isTold 98 = .ok (.goto 4, 3) := by decide +kernel
theorem dX8_isTold_101 : decode cX8_isTold 101 = .ok (.iconst 0, 1) := by decide +kernel
theorem dX8_isTold_102 : decode cX8_isTold 102 = .ok (.istore_n 2, 1) := by decide +kernel
theorem dX8_isTold_103 : decode cX8_isTold 103 = .ok (.iinc 4 1, 3) := by decide +kernel
theorem dX8_isTold_106 : decode cX8_isTold 106 = .ok (.goto (-74), 3) := by decide +kernel
theorem dX8_isTold_109 : decode cX8_isTold 109 = .ok (.iload_n 2, 1) := by decide +kernel
theorem dX8_isTold_110 : decode cX8_isTold 110 = .ok (.ireturn, 1) := by decide +kernel
set_option maxRecDepth 20000 in
theorem ggX8_inOrder_X8_isTold : GoodIn wsX8_inOrder wsX8_isTold := goodIn_r _ [6, 7, 8, 1, 9, 10, 11, 5, 12, 13, 14, 15, 16, 17, 18, 19, 20, 21, 22, 23, 24, 25, 26, 27, 28, 29, 30] (by decide +kernel) (by decide +kernel)
set_option maxRecDepth 20000 in
theorem gX8_inOrder_X8_isTold : GoodIn wsX8_inOrder (wsV RX8 148 RX8 yX8_isTold wsX8_isTold) := goodIn_app (goodIn_of _ (by decide +kernel)) ggX8_inOrder_X8_isTold
set_option maxRecDepth 20000 in
theorem ggX8_inOrder_X8_isAhead : GoodIn wsX8_inOrder wsX8_isAhead := goodIn_r _ [12, 7, 13, 14, 15, 16, 17, 18, 19, 20, 21, 22, 23, 24, 25, 26, 27, 28, 29, 30] (by decide +kernel) (by decide +kernel)
set_option maxRecDepth 20000 in
theorem gX8_inOrder_X8_isAhead : GoodIn wsX8_inOrder (wsV RX8 145 RX8 yX8_isAhead wsX8_isAhead) := goodIn_app (goodIn_of _ (by decide +kernel)) ggX8_inOrder_X8_isAhead
theorem dX8_inOrder_0 : decode cX8_inOrder 0 = .ok (.iconst 0, 1) := by decide +kernel
theorem dX8_inOrder_1 : decode cX8_inOrder 1 = .ok (.istore_n 2, 1) := by decide +kernel
theorem dX8_inOrder_2 : decode cX8_inOrder 2 = .ok (.bipush (-5), 2) := by decide +kernel
theorem dX8_inOrder_4 : decode cX8_inOrder 4 = .ok (.istore_n 3, 1) := by decide +kernel
theorem dX8_inOrder_5 : decode cX8_inOrder 5 = .ok (.iconst 0, 1) := by decide +kernel
theorem dX8_inOrder_6 : decode cX8_inOrder 6 = .ok (.istore 4, 2) := by decide +kernel
theorem dX8_inOrder_8 : decode cX8_inOrder 8 = .ok (.iload 4, 2) := by decide +kernel
theorem dX8_inOrder_10 : decode cX8_inOrder 10 = .ok (.aload_n 0, 1) := by decide +kernel
theorem dX8_inOrder_11 : decode cX8_inOrder 11 = .ok (.getfield 7, 3) := by decide +kernel
theorem dX8_inOrder_14 : decode cX8_inOrder 14 = .ok (.sipush 2800, 3) := by decide +kernel
theorem dX8_inOrder_17 : decode cX8_inOrder 17 = .ok (.iaload, 1) := by decide +kernel
theorem dX8_inOrder_18 : decode cX8_inOrder 18 = .ok (.if_icmp .ge 96, 3) := by decide +kernel
theorem dX8_inOrder_21 : decode cX8_inOrder 21 = .ok (.aload_n 0, 1) := by decide +kernel
theorem dX8_inOrder_22 : decode cX8_inOrder 22 = .ok (.iload 4, 2) := by decide +kernel
theorem dX8_inOrder_24 : decode cX8_inOrder 24 = .ok (.invokevirtual 148, 3) := by decide +kernel
theorem dX8_inOrder_27 : decode cX8_inOrder 27 = .ok (.ifCond .eq 81, 3) := by decide +kernel
theorem dX8_inOrder_30 : decode cX8_inOrder 30 = .ok (.iconst 0, 1) := by decide +kernel
theorem dX8_inOrder_31 : decode cX8_inOrder 31 = .ok (.istore 5, 2) := by decide +kernel
theorem dX8_inOrder_33 : decode cX8_inOrder 33 = .ok (.iconst 0, 1) := by decide +kernel
theorem dX8_inOrder_34 : decode cX8_inOrder 34 = .ok (.istore 6, 2) := by decide +kernel
theorem dX8_inOrder_36 : decode cX8_inOrder 36 = .ok (.iload 6, 2) := by decide +kernel
theorem dX8_inOrder_38 : decode cX8_inOrder 38 = .ok (.aload_n 0, 1) := by decide +kernel
theorem dX8_inOrder_39 : decode cX8_inOrder 39 = .ok (.getfield 7, 3) := by decide +kernel
theorem dX8_inOrder_42 : decode cX8_inOrder 42 = .ok (.sipush 2800, 3) := by decide +kernel
theorem dX8_inOrder_45 : decode cX8_inOrder 45 = .ok (.iaload, 1) := by decide +kernel
theorem dX8_inOrder_46 : decode cX8_inOrder 46 = .ok (.if_icmp .ge 46, 3) := by decide +kernel
theorem dX8_inOrder_49 : decode cX8_inOrder 49 = .ok (.iload 5, 2) := by decide +kernel
theorem dX8_inOrder_51 : decode cX8_inOrder 51 = .ok (.iload 6, 2) := by decide +kernel
theorem dX8_inOrder_53 : decode cX8_inOrder 53 = .ok (.iload 4, 2) := by decide +kernel
theorem dX8_inOrder_55 : decode cX8_inOrder 55 = .ok (.if_icmp .eq 27, 3) := by decide +kernel
theorem dX8_inOrder_58 : decode cX8_inOrder 58 = .ok (.aload_n 0, 1) := by decide +kernel
theorem dX8_inOrder_59 : decode cX8_inOrder 59 = .ok (.iload 6, 2) := by decide +kernel
theorem dX8_inOrder_61 : decode cX8_inOrder 61 = .ok (.invokevirtual 148, 3) := by decide +kernel
theorem dX8_inOrder_64 : decode cX8_inOrder 64 = .ok (.ifCond .eq 18, 3) := by decide +kernel
theorem dX8_inOrder_67 : decode cX8_inOrder 67 = .ok (.aload_n 0, 1) := by decide +kernel
theorem dX8_inOrder_68 : decode cX8_inOrder 68 = .ok (.iload 6, 2) := by decide +kernel
theorem dX8_inOrder_70 : decode cX8_inOrder 70 = .ok (.iload 4, 2) := by decide +kernel
theorem dX8_inOrder_72 : decode cX8_inOrder 72 = .ok (.invokevirtual 145, 3) := by decide +kernel
theorem dX8_inOrder_75 : decode cX8_inOrder 75 = .ok (.ifCond .eq 7, 3) := by decide +kernel
theorem dX8_inOrder_78 : decode cX8_inOrder 78 = .ok (.iconst 1, 1) := by decide +kernel
theorem dX8_inOrder_79 : decode cX8_inOrder 79 = .ok (.goto 4, 3) := by decide +kernel
theorem dX8_inOrder_82 : decode cX8_inOrder 82 = .ok (.iconst 0, 1) := by decide +kernel
theorem dX8_inOrder_83 : decode cX8_inOrder 83 = .ok (.iadd, 1) := by decide +kernel
theorem dX8_inOrder_84 : decode cX8_inOrder 84 = .ok (.istore 5, 2) := by decide +kernel
theorem dX8_inOrder_86 : decode cX8_inOrder 86 = .ok (.iinc 6 1, 3) := by decide +kernel
theorem dX8_inOrder_89 : decode cX8_inOrder 89 = .ok (.goto (-53), 3) := by decide +kernel
theorem dX8_inOrder_92 : decode cX8_inOrder 92 = .ok (.iload 5, 2) := by decide +kernel
theorem dX8_inOrder_94 : decode cX8_inOrder 94 = .ok (.iload_n 1, 1) := by decide +kernel
theorem dX8_inOrder_95 : decode cX8_inOrder 95 = .ok (.if_icmp .ne 8, 3) := by decide +kernel
theorem dX8_inOrder_98 : decode cX8_inOrder 98 = .ok (.iload 4, 2) := by decide +kernel
theorem dX8_inOrder_100 : decode cX8_inOrder 100 = .ok (.goto 4, 3) := by decide +kernel
theorem dX8_inOrder_103 : decode cX8_inOrder 103 = .ok (.iload_n 3, 1) := by decide +kernel
theorem dX8_inOrder_104 : decode cX8_inOrder 104 = .ok (.istore_n 3, 1) := by decide +kernel
theorem dX8_inOrder_105 : decode cX8_inOrder 105 = .ok (.iinc 2 1, 3) := by decide +kernel
theorem dX8_inOrder_108 : decode cX8_inOrder 108 = .ok (.iinc 4 1, 3) := by decide +kernel
theorem dX8_inOrder_111 : decode cX8_inOrder 111 = .ok (.goto (-103), 3) := by decide +kernel
theorem dX8_inOrder_114 : decode cX8_inOrder 114 = .ok (.iload_n 1, 1) := by decide +kernel
theorem dX8_inOrder_115 : decode cX8_inOrder 115 = .ok (.iconst (-1), 1) := by decide +kernel
theorem dX8_inOrder_116 : decode cX8_inOrder 116 = .ok (.if_icmp .ne 7, 3) := by decide +kernel
theorem dX8_inOrder_119 : decode cX8_inOrder 119 = .ok (.iload_n 2, 1) := by decide +kernel
theorem dX8_inOrder_120 : decode cX8_inOrder 120 = .ok (.goto 4, 3) := by decide +kernel
theorem dX8_inOrder_123 : decode cX8_inOrder 123 = .ok (.iload_n 3, 1) := by decide +kernel
theorem dX8_inOrder_124 : decode cX8_inOrder 124 = .ok (.ireturn, 1) := by decide +kernel
set_option maxRecDepth 20000 in
theorem ggX8_best_X8_bad : GoodIn wsX8_best wsX8_bad := goodIn_r _ [5, 6, 40, 41, 42, 43, 44, 45, 46, 47, 48, 49, 50, 51, 52, 53, 54, 55, 56, 57] (by decide +kernel) (by decide +kernel)
set_option maxRecDepth 20000 in
theorem gX8_best_X8_bad : GoodIn wsX8_best (wsV RX8 59 RX8 yX8_bad wsX8_bad) := goodIn_app (goodIn_of _ (by decide +kernel)) ggX8_best_X8_bad
set_option maxRecDepth 20000 in
theorem ggX8_best_X8_laysRanks : GoodIn wsX8_best wsX8_laysRanks := goodIn_r _ [10, 11, 12, 13, 14, 15, 16, 4, 17, 18, 19, 20, 21, 22, 23, 24, 25, 26, 27, 40, 41, 42, 43, 44, 45, 46, 47, 48, 49, 50, 51, 52, 53, 54, 55, 56, 57] (by decide +kernel) (by decide +kernel)
set_option maxRecDepth 20000 in
theorem gX8_best_X8_laysRanks : GoodIn wsX8_best (wsV RX8 151 RX8 yX8_laysRanks wsX8_laysRanks) := goodIn_app (goodIn_of _ (by decide +kernel)) ggX8_best_X8_laysRanks
set_option maxRecDepth 20000 in
theorem ggX8_best_X8_inOrder : GoodIn wsX8_best wsX8_inOrder := goodIn_r _ [31, 11, 32, 33, 34, 4, 35, 12, 13, 36, 37, 38, 39, 40, 41, 42, 43, 44, 45, 46, 47, 48, 49, 50, 51, 52, 53, 54, 55, 56, 57] (by decide +kernel) (by decide +kernel)
set_option maxRecDepth 20000 in
theorem gX8_best_X8_inOrder : GoodIn wsX8_best (wsV RX8 155 RX8 yX8_inOrder wsX8_inOrder) := goodIn_app (goodIn_of _ (by decide +kernel)) ggX8_best_X8_inOrder
theorem dX8_best_0 : decode cX8_best 0 = .ok (.iload_n 1, 1) := by decide +kernel
theorem dX8_best_1 : decode cX8_best 1 = .ok (.iconst (-1), 1) := by decide +kernel
theorem dX8_best_2 : decode cX8_best 2 = .ok (.if_icmp .ge 11, 3) := by decide +kernel
theorem dX8_best_5 : decode cX8_best 5 = .ok (.aload_n 0, 1) := by decide +kernel
theorem dX8_best_6 : decode cX8_best 6 = .ok (.invokevirtual 59, 3) := by decide +kernel
theorem dX8_best_9 : decode cX8_best 9 = .ok (.pop, 1) := by decide +kernel
theorem dX8_best_10 : decode cX8_best 10 = .ok (.bipush (-10), 2) := by decide +kernel
theorem dX8_best_12 : decode cX8_best 12 = .ok (.ireturn, 1) := by decide +kernel
theorem dX8_best_13 : decode cX8_best 13 = .ok (.aload_n 0, 1) := by decide +kernel
theorem dX8_best_14 : decode cX8_best 14 = .ok (.iconst 0, 1) := by decide +kernel
theorem dX8_best_15 : decode cX8_best 15 = .ok (.invokevirtual 151, 3) := by decide +kernel
theorem dX8_best_18 : decode cX8_best 18 = .ok (.aload_n 0, 1) := by decide +kernel
theorem dX8_best_19 : decode cX8_best 19 = .ok (.iload_n 1, 1) := by decide +kernel
theorem dX8_best_20 : decode cX8_best 20 = .ok (.invokevirtual 155, 3) := by decide +kernel
theorem dX8_best_23 : decode cX8_best 23 = .ok (.ireturn, 1) := by decide +kernel
set_option maxRecDepth 20000 in
theorem ggX8_near_X8_bad : GoodIn wsX8_near wsX8_bad := goodIn_r _ [5, 6, 40, 41, 42, 43, 44, 45, 46, 47, 48, 49, 50, 51, 52, 53, 54, 55, 56, 57] (by decide +kernel) (by decide +kernel)
set_option maxRecDepth 20000 in
theorem gX8_near_X8_bad : GoodIn wsX8_near (wsV RX8 59 RX8 yX8_bad wsX8_bad) := goodIn_app (goodIn_of _ (by decide +kernel)) ggX8_near_X8_bad
set_option maxRecDepth 20000 in
theorem ggX8_near_X8_laysRanks : GoodIn wsX8_near wsX8_laysRanks := goodIn_r _ [10, 11, 12, 13, 14, 15, 16, 4, 17, 18, 19, 20, 21, 22, 23, 24, 25, 26, 27, 40, 41, 42, 43, 44, 45, 46, 47, 48, 49, 50, 51, 52, 53, 54, 55, 56, 57] (by decide +kernel) (by decide +kernel)
set_option maxRecDepth 20000 in
theorem gX8_near_X8_laysRanks : GoodIn wsX8_near (wsV RX8 151 RX8 yX8_laysRanks wsX8_laysRanks) := goodIn_app (goodIn_of _ (by decide +kernel)) ggX8_near_X8_laysRanks
set_option maxRecDepth 20000 in
theorem ggX8_near_X8_inOrder : GoodIn wsX8_near wsX8_inOrder := goodIn_r _ [31, 11, 32, 33, 34, 4, 35, 12, 13, 36, 37, 38, 39, 40, 41, 42, 43, 44, 45, 46, 47, 48, 49, 50, 51, 52, 53, 54, 55, 56, 57] (by decide +kernel) (by decide +kernel)
set_option maxRecDepth 20000 in
theorem gX8_near_X8_inOrder : GoodIn wsX8_near (wsV RX8 155 RX8 yX8_inOrder wsX8_inOrder) := goodIn_app (goodIn_of _ (by decide +kernel)) ggX8_near_X8_inOrder
theorem dX8_near_0 : decode cX8_near 0 = .ok (.iload_n 1, 1) := by decide +kernel
theorem dX8_near_1 : decode cX8_near 1 = .ok (.iconst (-1), 1) := by decide +kernel
theorem dX8_near_2 : decode cX8_near 2 = .ok (.if_icmp .ge 11, 3) := by decide +kernel
theorem dX8_near_5 : decode cX8_near 5 = .ok (.aload_n 0, 1) := by decide +kernel
theorem dX8_near_6 : decode cX8_near 6 = .ok (.invokevirtual 59, 3) := by decide +kernel
theorem dX8_near_9 : decode cX8_near 9 = .ok (.pop, 1) := by decide +kernel
theorem dX8_near_10 : decode cX8_near 10 = .ok (.bipush (-10), 2) := by decide +kernel
theorem dX8_near_12 : decode cX8_near 12 = .ok (.ireturn, 1) := by decide +kernel
theorem dX8_near_13 : decode cX8_near 13 = .ok (.aload_n 0, 1) := by decide +kernel
theorem dX8_near_14 : decode cX8_near 14 = .ok (.iconst 1, 1) := by decide +kernel
theorem dX8_near_15 : decode cX8_near 15 = .ok (.invokevirtual 151, 3) := by decide +kernel
theorem dX8_near_18 : decode cX8_near 18 = .ok (.aload_n 0, 1) := by decide +kernel
theorem dX8_near_19 : decode cX8_near 19 = .ok (.iload_n 1, 1) := by decide +kernel
theorem dX8_near_20 : decode cX8_near 20 = .ok (.invokevirtual 155, 3) := by decide +kernel
theorem dX8_near_23 : decode cX8_near 23 = .ok (.ireturn, 1) := by decide +kernel
set_option maxRecDepth 20000 in
theorem ggX8_firstOf_X8_begins : GoodIn wsX8_firstOf wsX8_begins := goodIn_r _ [6, 1, 7, 8, 9, 10, 11, 12, 13, 14, 15, 16, 17, 18, 19, 20, 21, 22, 23, 24, 25, 26] (by decide +kernel) (by decide +kernel)
set_option maxRecDepth 20000 in
theorem gX8_firstOf_X8_begins : GoodIn wsX8_firstOf (wsV RX8 138 RX8 yX8_begins wsX8_begins) := goodIn_app (goodIn_of _ (by decide +kernel)) ggX8_firstOf_X8_begins
theorem dX8_firstOf_0 : decode cX8_firstOf 0 = .ok (.iconst (-1), 1) := by decide +kernel
theorem dX8_firstOf_1 : decode cX8_firstOf 1 = .ok (.istore_n 2, 1) := by decide +kernel
theorem dX8_firstOf_2 : decode cX8_firstOf 2 = .ok (.iconst 0, 1) := by decide +kernel
theorem dX8_firstOf_3 : decode cX8_firstOf 3 = .ok (.istore_n 3, 1) := by decide +kernel
theorem dX8_firstOf_4 : decode cX8_firstOf 4 = .ok (.iload_n 3, 1) := by decide +kernel
theorem dX8_firstOf_5 : decode cX8_firstOf 5 = .ok (.aload_n 0, 1) := by decide +kernel
theorem dX8_firstOf_6 : decode cX8_firstOf 6 = .ok (.getfield 7, 3) := by decide +kernel
theorem dX8_firstOf_9 : decode cX8_firstOf 9 = .ok (.sipush 2800, 3) := by decide +kernel
theorem dX8_firstOf_12 : decode cX8_firstOf 12 = .ok (.iaload, 1) := by decide +kernel
theorem dX8_firstOf_13 : decode cX8_firstOf 13 = .ok (.if_icmp .ge 93, 3) := by decide +kernel
theorem dX8_firstOf_16 : decode cX8_firstOf 16 = .ok (.aload_n 0, 1) := by decide +kernel
theorem dX8_firstOf_17 : decode cX8_firstOf 17 = .ok (.getfield 7, 3) := by decide +kernel
theorem dX8_firstOf_20 : decode cX8_firstOf 20 = .ok (.bipush 14, 2) := by decide +kernel
theorem dX8_firstOf_22 : decode cX8_firstOf 22 = .ok (.iload_n 3, 1) := by decide +kernel
theorem dX8_firstOf_23 : decode cX8_firstOf 23 = .ok (.imul, 1) := by decide +kernel
theorem dX8_firstOf_24 : decode cX8_firstOf 24 = .ok (.iaload, 1) := by decide +kernel
theorem dX8_firstOf_25 : decode cX8_firstOf 25 = .ok (.iconst 1, 1) := by decide +kernel
theorem dX8_firstOf_26 : decode cX8_firstOf 26 = .ok (.if_icmp .ne 30, 3) := by decide +kernel
theorem dX8_firstOf_29 : decode cX8_firstOf 29 = .ok (.aload_n 0, 1) := by decide +kernel
theorem dX8_firstOf_30 : decode cX8_firstOf 30 = .ok (.getfield 7, 3) := by decide +kernel
theorem dX8_firstOf_33 : decode cX8_firstOf 33 = .ok (.bipush 14, 2) := by decide +kernel
theorem dX8_firstOf_35 : decode cX8_firstOf 35 = .ok (.iload_n 3, 1) := by decide +kernel
theorem dX8_firstOf_36 : decode cX8_firstOf 36 = .ok (.imul, 1) := by decide +kernel
theorem dX8_firstOf_37 : decode cX8_firstOf 37 = .ok (.iconst 3, 1) := by decide +kernel
theorem dX8_firstOf_38 : decode cX8_firstOf 38 = .ok (.iadd, 1) := by decide +kernel
theorem dX8_firstOf_39 : decode cX8_firstOf 39 = .ok (.iaload, 1) := by decide +kernel
theorem dX8_firstOf_40 : decode cX8_firstOf 40 = .ok (.iload_n 1, 1) := by decide +kernel
theorem dX8_firstOf_41 : decode cX8_firstOf 41 = .ok (.if_icmp .lt 15, 3) := by decide +kernel
theorem dX8_firstOf_44 : decode cX8_firstOf 44 = .ok (.aload_n 0, 1) := by decide +kernel
theorem dX8_firstOf_45 : decode cX8_firstOf 45 = .ok (.iload_n 3, 1) := by decide +kernel
theorem dX8_firstOf_46 : decode cX8_firstOf 46 = .ok (.invokevirtual 138, 3) := by decide +kernel
theorem dX8_firstOf_49 : decode cX8_firstOf 49 = .ok (.ifCond .eq 7, 3) := by decide +kernel
theorem dX8_firstOf_52 : decode cX8_firstOf 52 = .ok (.iconst 1, 1) := by decide +kernel
theorem dX8_firstOf_53 : decode cX8_firstOf 53 = .ok (.goto 4, 3) := by decide +kernel
theorem dX8_firstOf_56 : decode cX8_firstOf 56 = .ok (.iconst 0, 1) := by decide +kernel
theorem dX8_firstOf_57 : decode cX8_firstOf 57 = .ok (.istore 4, 2) := by decide +kernel
theorem dX8_firstOf_59 : decode cX8_firstOf 59 = .ok (.iload 4, 2) := by decide +kernel
theorem dX8_firstOf_61 : decode cX8_firstOf 61 = .ok (.ifCond .eq 37, 3) := by decide +kernel
theorem dX8_firstOf_64 : decode cX8_firstOf 64 = .ok (.iload_n 2, 1) := by decide +kernel
theorem dX8_firstOf_65 : decode cX8_firstOf 65 = .ok (.iconst (-1), 1) := by decide +kernel
theorem dX8_firstOf_66 : decode cX8_firstOf 66 = .ok (.if_icmp .eq 28, 3) := by decide +kernel
theorem dX8_firstOf_69 : decode cX8_firstOf 69 = .ok (.aload_n 0, 1) := by decide +kernel
theorem dX8_firstOf_70 : decode cX8_firstOf 70 = .ok (.getfield 7, 3) := by decide +kernel
theorem dX8_firstOf_73 : decode cX8_firstOf 73 = .ok (.bipush 14, 2) := by decide +kernel
theorem dX8_firstOf_75 : decode cX8_firstOf 75 = .ok (.iload_n 3, 1) := by decide +kernel
theorem dX8_firstOf_76 : decode cX8_firstOf 76 = .ok (.imul, 1) := by decide +kernel
theorem dX8_firstOf_77 : decode cX8_firstOf 77 = .ok (.iconst 1, 1) := by decide +kernel
theorem dX8_firstOf_78 : decode cX8_firstOf 78 = .ok (.iadd, 1) := by decide +kernel
theorem dX8_firstOf_79 : decode cX8_firstOf 79 = .ok (.iaload, 1) := by decide +kernel
theorem dX8_firstOf_80 : decode cX8_firstOf 80 = .ok (.aload_n 0, 1) := by decide +kernel
theorem dX8_firstOf_81 : decode cX8_firstOf 81 = .ok (.getfield 7, 3) := by decide +kernel
theorem dX8_firstOf_84 : decode cX8_firstOf 84 = .ok (.bipush 14, 2) := by decide +kernel
theorem dX8_firstOf_86 : decode cX8_firstOf 86 = .ok (.iload_n 2, 1) := by decide +kernel
theorem dX8_firstOf_87 : decode cX8_firstOf 87 = .ok (.imul, 1) := by decide +kernel
theorem dX8_firstOf_88 : decode cX8_firstOf 88 = .ok (.iconst 1, 1) := by decide +kernel
theorem dX8_firstOf_89 : decode cX8_firstOf 89 = .ok (.iadd, 1) := by decide +kernel
theorem dX8_firstOf_90 : decode cX8_firstOf 90 = .ok (.iaload, 1) := by decide +kernel
theorem dX8_firstOf_91 : decode cX8_firstOf 91 = .ok (.if_icmp .le 7, 3) := by decide +kernel
theorem dX8_firstOf_94 : decode cX8_firstOf 94 = .ok (.iload_n 3, 1) := by decide +kernel
theorem dX8_firstOf_95 : decode cX8_firstOf 95 = .ok (.goto 4, 3) := by decide +kernel
theorem dX8_firstOf_98 : decode cX8_firstOf 98 = .ok (.iload_n 2, 1) := by decide +kernel
theorem dX8_firstOf_99 : decode cX8_firstOf 99 = .ok (.istore_n 2, 1) := by decide +kernel
theorem dX8_firstOf_100 : decode cX8_firstOf 100 = .ok (.iinc 3 1, 3) := by decide +kernel
theorem dX8_firstOf_103 : decode cX8_firstOf 103 = .ok (.goto (-99), 3) := by decide +kernel
theorem dX8_firstOf_106 : decode cX8_firstOf 106 = .ok (.iload_n 2, 1) := by decide +kernel
theorem dX8_firstOf_107 : decode cX8_firstOf 107 = .ok (.ireturn, 1) := by decide +kernel
set_option maxRecDepth 20000 in
theorem ggX8_top_X8_firstOf : GoodIn wsX8_top wsX8_firstOf := goodIn_r _ [6, 1, 7, 8, 9, 5, 10, 11, 12, 13, 14, 15, 16, 17, 18, 19, 20, 21, 22, 23, 24, 25, 26, 27, 28, 29, 30] (by decide +kernel) (by decide +kernel)
set_option maxRecDepth 20000 in
theorem gX8_top_X8_firstOf : GoodIn wsX8_top (wsV RX8 158 RX8 yX8_firstOf wsX8_firstOf) := goodIn_app (goodIn_of _ (by decide +kernel)) ggX8_top_X8_firstOf
theorem dX8_top_0 : decode cX8_top 0 = .ok (.aload_n 0, 1) := by decide +kernel
theorem dX8_top_1 : decode cX8_top 1 = .ok (.iconst 0, 1) := by decide +kernel
theorem dX8_top_2 : decode cX8_top 2 = .ok (.invokevirtual 158, 3) := by decide +kernel
theorem dX8_top_5 : decode cX8_top 5 = .ok (.istore_n 1, 1) := by decide +kernel
theorem dX8_top_6 : decode cX8_top 6 = .ok (.iload_n 1, 1) := by decide +kernel
theorem dX8_top_7 : decode cX8_top 7 = .ok (.iconst (-1), 1) := by decide +kernel
theorem dX8_top_8 : decode cX8_top 8 = .ok (.if_icmp .ne 7, 3) := by decide +kernel
theorem dX8_top_11 : decode cX8_top 11 = .ok (.iconst (-1), 1) := by decide +kernel
theorem dX8_top_12 : decode cX8_top 12 = .ok (.goto 14, 3) := by decide +kernel
theorem dX8_top_15 : decode cX8_top 15 = .ok (.aload_n 0, 1) := by decide +kernel
theorem dX8_top_16 : decode cX8_top 16 = .ok (.getfield 7, 3) := by decide +kernel
theorem dX8_top_19 : decode cX8_top 19 = .ok (.bipush 14, 2) := by decide +kernel
theorem dX8_top_21 : decode cX8_top 21 = .ok (.iload_n 1, 1) := by decide +kernel
theorem dX8_top_22 : decode cX8_top 22 = .ok (.imul, 1) := by decide +kernel
theorem dX8_top_23 : decode cX8_top 23 = .ok (.iconst 1, 1) := by decide +kernel
theorem dX8_top_24 : decode cX8_top 24 = .ok (.iadd, 1) := by decide +kernel
theorem dX8_top_25 : decode cX8_top 25 = .ok (.iaload, 1) := by decide +kernel
theorem dX8_top_26 : decode cX8_top 26 = .ok (.ireturn, 1) := by decide +kernel
set_option maxRecDepth 20000 in
theorem ggX8_under_X8_begins : GoodIn wsX8_under wsX8_begins := goodIn_r _ [6, 1, 7, 8, 9, 10, 11, 12, 13, 14, 15, 16, 17, 18, 19, 20, 21, 22, 23, 24, 25, 26] (by decide +kernel) (by decide +kernel)
set_option maxRecDepth 20000 in
theorem gX8_under_X8_begins : GoodIn wsX8_under (wsV RX8 138 RX8 yX8_begins wsX8_begins) := goodIn_app (goodIn_of _ (by decide +kernel)) ggX8_under_X8_begins
theorem dX8_under_0 : decode cX8_under 0 = .ok (.iconst 0, 1) := by decide +kernel
theorem dX8_under_1 : decode cX8_under 1 = .ok (.istore_n 1, 1) := by decide +kernel
theorem dX8_under_2 : decode cX8_under 2 = .ok (.iconst 0, 1) := by decide +kernel
theorem dX8_under_3 : decode cX8_under 3 = .ok (.istore_n 2, 1) := by decide +kernel
theorem dX8_under_4 : decode cX8_under 4 = .ok (.iload_n 2, 1) := by decide +kernel
theorem dX8_under_5 : decode cX8_under 5 = .ok (.aload_n 0, 1) := by decide +kernel
theorem dX8_under_6 : decode cX8_under 6 = .ok (.getfield 7, 3) := by decide +kernel
theorem dX8_under_9 : decode cX8_under 9 = .ok (.sipush 2800, 3) := by decide +kernel
theorem dX8_under_12 : decode cX8_under 12 = .ok (.iaload, 1) := by decide +kernel
theorem dX8_under_13 : decode cX8_under 13 = .ok (.if_icmp .ge 38, 3) := by decide +kernel
theorem dX8_under_16 : decode cX8_under 16 = .ok (.iload_n 1, 1) := by decide +kernel
theorem dX8_under_17 : decode cX8_under 17 = .ok (.aload_n 0, 1) := by decide +kernel
theorem dX8_under_18 : decode cX8_under 18 = .ok (.getfield 7, 3) := by decide +kernel
theorem dX8_under_21 : decode cX8_under 21 = .ok (.bipush 14, 2) := by decide +kernel
theorem dX8_under_23 : decode cX8_under 23 = .ok (.iload_n 2, 1) := by decide +kernel
theorem dX8_under_24 : decode cX8_under 24 = .ok (.imul, 1) := by decide +kernel
theorem dX8_under_25 : decode cX8_under 25 = .ok (.iaload, 1) := by decide +kernel
theorem dX8_under_26 : decode cX8_under 26 = .ok (.iconst 1, 1) := by decide +kernel
theorem dX8_under_27 : decode cX8_under 27 = .ok (.if_icmp .ne 15, 3) := by decide +kernel
theorem dX8_under_30 : decode cX8_under 30 = .ok (.aload_n 0, 1) := by decide +kernel
theorem dX8_under_31 : decode cX8_under 31 = .ok (.iload_n 2, 1) := by decide +kernel
theorem dX8_under_32 : decode cX8_under 32 = .ok (.invokevirtual 138, 3) := by decide +kernel
theorem dX8_under_35 : decode cX8_under 35 = .ok (.ifCond .eq 7, 3) := by decide +kernel
theorem dX8_under_38 : decode cX8_under 38 = .ok (.iconst 1, 1) := by decide +kernel
theorem dX8_under_39 : decode cX8_under 39 = .ok (.goto 4, 3) := by decide +kernel
theorem dX8_under_42 : decode cX8_under 42 = .ok (.iconst 0, 1) := by decide +kernel
theorem dX8_under_43 : decode cX8_under 43 = .ok (.iadd, 1) := by decide +kernel
theorem dX8_under_44 : decode cX8_under 44 = .ok (.istore_n 1, 1) := by decide +kernel
theorem dX8_under_45 : decode cX8_under 45 = .ok (.iinc 2 1, 3) := by decide +kernel
theorem dX8_under_48 : decode cX8_under 48 = .ok (.goto (-44), 3) := by decide +kernel
theorem dX8_under_51 : decode cX8_under 51 = .ok (.iload_n 1, 1) := by decide +kernel
theorem dX8_under_52 : decode cX8_under 52 = .ok (.ireturn, 1) := by decide +kernel
set_option maxRecDepth 20000 in
theorem ggX8_close_X8_isClose : GoodIn wsX8_close wsX8_isClose := goodIn_r _ [6, 1, 7, 8, 9, 5, 10, 11, 12, 13, 14, 15, 16, 17, 18, 19, 20, 21, 22, 23, 24, 25, 26, 27, 28, 29, 30, 31, 32, 33, 34] (by decide +kernel) (by decide +kernel)
set_option maxRecDepth 20000 in
theorem gX8_close_X8_isClose : GoodIn wsX8_close (wsV RX8 141 RX8 yX8_isClose wsX8_isClose) := goodIn_app (goodIn_of _ (by decide +kernel)) ggX8_close_X8_isClose
theorem dX8_close_0 : decode cX8_close 0 = .ok (.iconst 0, 1) := by decide +kernel
theorem dX8_close_1 : decode cX8_close 1 = .ok (.istore_n 1, 1) := by decide +kernel
theorem dX8_close_2 : decode cX8_close 2 = .ok (.iconst 0, 1) := by decide +kernel
theorem dX8_close_3 : decode cX8_close 3 = .ok (.istore_n 2, 1) := by decide +kernel
theorem dX8_close_4 : decode cX8_close 4 = .ok (.iload_n 2, 1) := by decide +kernel
theorem dX8_close_5 : decode cX8_close 5 = .ok (.aload_n 0, 1) := by decide +kernel
theorem dX8_close_6 : decode cX8_close 6 = .ok (.getfield 7, 3) := by decide +kernel
theorem dX8_close_9 : decode cX8_close 9 = .ok (.sipush 2800, 3) := by decide +kernel
theorem dX8_close_12 : decode cX8_close 12 = .ok (.iaload, 1) := by decide +kernel
theorem dX8_close_13 : decode cX8_close 13 = .ok (.if_icmp .ge 38, 3) := by decide +kernel
theorem dX8_close_16 : decode cX8_close 16 = .ok (.iload_n 1, 1) := by decide +kernel
theorem dX8_close_17 : decode cX8_close 17 = .ok (.aload_n 0, 1) := by decide +kernel
theorem dX8_close_18 : decode cX8_close 18 = .ok (.getfield 7, 3) := by decide +kernel
theorem dX8_close_21 : decode cX8_close 21 = .ok (.bipush 14, 2) := by decide +kernel
theorem dX8_close_23 : decode cX8_close 23 = .ok (.iload_n 2, 1) := by decide +kernel
theorem dX8_close_24 : decode cX8_close 24 = .ok (.imul, 1) := by decide +kernel
theorem dX8_close_25 : decode cX8_close 25 = .ok (.iaload, 1) := by decide +kernel
theorem dX8_close_26 : decode cX8_close 26 = .ok (.iconst 1, 1) := by decide +kernel
theorem dX8_close_27 : decode cX8_close 27 = .ok (.if_icmp .ne 15, 3) := by decide +kernel
theorem dX8_close_30 : decode cX8_close 30 = .ok (.aload_n 0, 1) := by decide +kernel
theorem dX8_close_31 : decode cX8_close 31 = .ok (.iload_n 2, 1) := by decide +kernel
theorem dX8_close_32 : decode cX8_close 32 = .ok (.invokevirtual 141, 3) := by decide +kernel
theorem dX8_close_35 : decode cX8_close 35 = .ok (.ifCond .eq 7, 3) := by decide +kernel
theorem dX8_close_38 : decode cX8_close 38 = .ok (.iconst 1, 1) := by decide +kernel
theorem dX8_close_39 : decode cX8_close 39 = .ok (.goto 4, 3) := by decide +kernel
theorem dX8_close_42 : decode cX8_close 42 = .ok (.iconst 0, 1) := by decide +kernel
theorem dX8_close_43 : decode cX8_close 43 = .ok (.iadd, 1) := by decide +kernel
theorem dX8_close_44 : decode cX8_close 44 = .ok (.istore_n 1, 1) := by decide +kernel
theorem dX8_close_45 : decode cX8_close 45 = .ok (.iinc 2 1, 3) := by decide +kernel
theorem dX8_close_48 : decode cX8_close 48 = .ok (.goto (-44), 3) := by decide +kernel
theorem dX8_close_51 : decode cX8_close 51 = .ok (.iload_n 1, 1) := by decide +kernel
theorem dX8_close_52 : decode cX8_close 52 = .ok (.ireturn, 1) := by decide +kernel
set_option maxRecDepth 20000 in
theorem ggX8_ahead_X8_firstOf : GoodIn wsX8_ahead wsX8_firstOf := goodIn_r _ [7, 2, 8, 9, 10, 6, 11, 1, 12, 13, 14, 15, 16, 17, 18, 19, 20, 21, 22, 23, 24, 25, 26, 27, 28, 29, 30] (by decide +kernel) (by decide +kernel)
set_option maxRecDepth 20000 in
theorem gX8_ahead_X8_firstOf : GoodIn wsX8_ahead (wsV RX8 158 RX8 yX8_firstOf wsX8_firstOf) := goodIn_app (goodIn_of _ (by decide +kernel)) ggX8_ahead_X8_firstOf
theorem dX8_ahead_0 : decode cX8_ahead 0 = .ok (.aload_n 0, 1) := by decide +kernel
theorem dX8_ahead_1 : decode cX8_ahead 1 = .ok (.aload_n 0, 1) := by decide +kernel
theorem dX8_ahead_2 : decode cX8_ahead 2 = .ok (.getfield 53, 3) := by decide +kernel
theorem dX8_ahead_5 : decode cX8_ahead 5 = .ok (.iconst 1, 1) := by decide +kernel
theorem dX8_ahead_6 : decode cX8_ahead 6 = .ok (.iadd, 1) := by decide +kernel
theorem dX8_ahead_7 : decode cX8_ahead 7 = .ok (.invokevirtual 158, 3) := by decide +kernel
theorem dX8_ahead_10 : decode cX8_ahead 10 = .ok (.istore_n 1, 1) := by decide +kernel
theorem dX8_ahead_11 : decode cX8_ahead 11 = .ok (.iload_n 1, 1) := by decide +kernel
theorem dX8_ahead_12 : decode cX8_ahead 12 = .ok (.iconst (-1), 1) := by decide +kernel
theorem dX8_ahead_13 : decode cX8_ahead 13 = .ok (.if_icmp .ne 7, 3) := by decide +kernel
theorem dX8_ahead_16 : decode cX8_ahead 16 = .ok (.iconst (-1), 1) := by decide +kernel
theorem dX8_ahead_17 : decode cX8_ahead 17 = .ok (.goto 20, 3) := by decide +kernel
theorem dX8_ahead_20 : decode cX8_ahead 20 = .ok (.aload_n 0, 1) := by decide +kernel
theorem dX8_ahead_21 : decode cX8_ahead 21 = .ok (.getfield 7, 3) := by decide +kernel
theorem dX8_ahead_24 : decode cX8_ahead 24 = .ok (.bipush 14, 2) := by decide +kernel
theorem dX8_ahead_26 : decode cX8_ahead 26 = .ok (.iload_n 1, 1) := by decide +kernel
theorem dX8_ahead_27 : decode cX8_ahead 27 = .ok (.imul, 1) := by decide +kernel
theorem dX8_ahead_28 : decode cX8_ahead 28 = .ok (.bipush 6, 2) := by decide +kernel
theorem dX8_ahead_30 : decode cX8_ahead 30 = .ok (.iadd, 1) := by decide +kernel
theorem dX8_ahead_31 : decode cX8_ahead 31 = .ok (.aload_n 0, 1) := by decide +kernel
theorem dX8_ahead_32 : decode cX8_ahead 32 = .ok (.getfield 53, 3) := by decide +kernel
theorem dX8_ahead_35 : decode cX8_ahead 35 = .ok (.iadd, 1) := by decide +kernel
theorem dX8_ahead_36 : decode cX8_ahead 36 = .ok (.iaload, 1) := by decide +kernel
theorem dX8_ahead_37 : decode cX8_ahead 37 = .ok (.ireturn, 1) := by decide +kernel
theorem dX8_sameOf_0 : decode cX8_sameOf 0 = .ok (.iconst 0, 1) := by decide +kernel
theorem dX8_sameOf_1 : decode cX8_sameOf 1 = .ok (.istore_n 3, 1) := by decide +kernel
theorem dX8_sameOf_2 : decode cX8_sameOf 2 = .ok (.iload_n 3, 1) := by decide +kernel
theorem dX8_sameOf_3 : decode cX8_sameOf 3 = .ok (.aload_n 0, 1) := by decide +kernel
theorem dX8_sameOf_4 : decode cX8_sameOf 4 = .ok (.getfield 7, 3) := by decide +kernel
theorem dX8_sameOf_7 : decode cX8_sameOf 7 = .ok (.bipush 14, 2) := by decide +kernel
theorem dX8_sameOf_9 : decode cX8_sameOf 9 = .ok (.iload_n 1, 1) := by decide +kernel
theorem dX8_sameOf_10 : decode cX8_sameOf 10 = .ok (.imul, 1) := by decide +kernel
theorem dX8_sameOf_11 : decode cX8_sameOf 11 = .ok (.iconst 3, 1) := by decide +kernel
theorem dX8_sameOf_12 : decode cX8_sameOf 12 = .ok (.iadd, 1) := by decide +kernel
theorem dX8_sameOf_13 : decode cX8_sameOf 13 = .ok (.iaload, 1) := by decide +kernel
theorem dX8_sameOf_14 : decode cX8_sameOf 14 = .ok (.if_icmp .ge 55, 3) := by decide +kernel
theorem dX8_sameOf_17 : decode cX8_sameOf 17 = .ok (.iload_n 3, 1) := by decide +kernel
theorem dX8_sameOf_18 : decode cX8_sameOf 18 = .ok (.aload_n 0, 1) := by decide +kernel
theorem dX8_sameOf_19 : decode cX8_sameOf 19 = .ok (.getfield 7, 3) := by decide +kernel
theorem dX8_sameOf_22 : decode cX8_sameOf 22 = .ok (.bipush 14, 2) := by decide +kernel
theorem dX8_sameOf_24 : decode cX8_sameOf 24 = .ok (.iload_n 2, 1) := by decide +kernel
theorem dX8_sameOf_25 : decode cX8_sameOf 25 = .ok (.imul, 1) := by decide +kernel
theorem dX8_sameOf_26 : decode cX8_sameOf 26 = .ok (.iconst 3, 1) := by decide +kernel
theorem dX8_sameOf_27 : decode cX8_sameOf 27 = .ok (.iadd, 1) := by decide +kernel
theorem dX8_sameOf_28 : decode cX8_sameOf 28 = .ok (.iaload, 1) := by decide +kernel
theorem dX8_sameOf_29 : decode cX8_sameOf 29 = .ok (.if_icmp .ge 40, 3) := by decide +kernel
theorem dX8_sameOf_32 : decode cX8_sameOf 32 = .ok (.aload_n 0, 1) := by decide +kernel
theorem dX8_sameOf_33 : decode cX8_sameOf 33 = .ok (.getfield 7, 3) := by decide +kernel
theorem dX8_sameOf_36 : decode cX8_sameOf 36 = .ok (.bipush 14, 2) := by decide +kernel
theorem dX8_sameOf_38 : decode cX8_sameOf 38 = .ok (.iload_n 1, 1) := by decide +kernel
theorem dX8_sameOf_39 : decode cX8_sameOf 39 = .ok (.imul, 1) := by decide +kernel
theorem dX8_sameOf_40 : decode cX8_sameOf 40 = .ok (.bipush 6, 2) := by decide +kernel
theorem dX8_sameOf_42 : decode cX8_sameOf 42 = .ok (.iadd, 1) := by decide +kernel
theorem dX8_sameOf_43 : decode cX8_sameOf 43 = .ok (.iload_n 3, 1) := by decide +kernel
theorem dX8_sameOf_44 : decode cX8_sameOf 44 = .ok (.iadd, 1) := by decide +kernel
theorem dX8_sameOf_45 : decode cX8_sameOf 45 = .ok (.iaload, 1) := by decide +kernel
theorem dX8_sameOf_46 : decode cX8_sameOf 46 = .ok (.aload_n 0, 1) := by decide +kernel
theorem dX8_sameOf_47 : decode cX8_sameOf 47 = .ok (.getfield 7, 3) := by decide +kernel
theorem dX8_sameOf_50 : decode cX8_sameOf 50 = .ok (.bipush 14, 2) := by decide +kernel
theorem dX8_sameOf_52 : decode cX8_sameOf 52 = .ok (.iload_n 2, 1) := by decide +kernel
theorem dX8_sameOf_53 : decode cX8_sameOf 53 = .ok (.imul, 1) := by decide +kernel
theorem dX8_sameOf_54 : decode cX8_sameOf 54 = .ok (.bipush 6, 2) := by decide +kernel
theorem dX8_sameOf_56 : decode cX8_sameOf 56 = .ok (.iadd, 1) := by decide +kernel
theorem dX8_sameOf_57 : decode cX8_sameOf 57 = .ok (.iload_n 3, 1) := by decide +kernel
theorem dX8_sameOf_58 : decode cX8_sameOf 58 = .ok (.iadd, 1) := by decide +kernel
theorem dX8_sameOf_59 : decode cX8_sameOf 59 = .ok (.iaload, 1) := by decide +kernel
theorem dX8_sameOf_60 : decode cX8_sameOf 60 = .ok (.if_icmp .ne 9, 3) := by decide +kernel
theorem dX8_sameOf_63 : decode cX8_sameOf 63 = .ok (.iinc 3 1, 3) := by decide +kernel
theorem dX8_sameOf_66 : decode cX8_sameOf 66 = .ok (.goto (-64), 3) := by decide +kernel
theorem dX8_sameOf_69 : decode cX8_sameOf 69 = .ok (.iload_n 3, 1) := by decide +kernel
theorem dX8_sameOf_70 : decode cX8_sameOf 70 = .ok (.ireturn, 1) := by decide +kernel
set_option maxRecDepth 20000 in
theorem ggX8_common_X8_firstOf : GoodIn wsX8_common wsX8_firstOf := goodIn_r _ [7, 1, 8, 9, 10, 6, 11, 2, 12, 17, 18, 19, 20, 21, 22, 23, 24, 25, 26, 27, 28, 29, 30, 31, 32, 33, 34] (by decide +kernel) (by decide +kernel)
set_option maxRecDepth 20000 in
theorem gX8_common_X8_firstOf : GoodIn wsX8_common (wsV RX8 158 RX8 yX8_firstOf wsX8_firstOf) := goodIn_app (goodIn_of _ (by decide +kernel)) ggX8_common_X8_firstOf
set_option maxRecDepth 20000 in
theorem ggX8_common_X8_begins : GoodIn wsX8_common wsX8_begins := goodIn_r _ [11, 1, 2, 12, 17, 18, 19, 20, 21, 22, 23, 24, 25, 26, 27, 28, 29, 30, 31, 32, 33, 34] (by decide +kernel) (by decide +kernel)
set_option maxRecDepth 20000 in
theorem gX8_common_X8_begins : GoodIn wsX8_common (wsV RX8 138 RX8 yX8_begins wsX8_begins) := goodIn_app (goodIn_of _ (by decide +kernel)) ggX8_common_X8_begins
set_option maxRecDepth 20000 in
theorem ggX8_common_X8_sameOf : GoodIn wsX8_common wsX8_sameOf := goodIn_r _ [16, 1, 17, 18, 19, 20, 21, 22, 23, 24, 25, 26, 27, 28, 29, 30, 31, 32, 33, 34] (by decide +kernel) (by decide +kernel)
set_option maxRecDepth 20000 in
theorem gX8_common_X8_sameOf : GoodIn wsX8_common (wsV RX8 161 RX8 yX8_sameOf wsX8_sameOf) := goodIn_app (goodIn_of _ (by decide +kernel)) ggX8_common_X8_sameOf
theorem dX8_common_0 : decode cX8_common 0 = .ok (.aload_n 0, 1) := by decide +kernel
theorem dX8_common_1 : decode cX8_common 1 = .ok (.iconst 0, 1) := by decide +kernel
theorem dX8_common_2 : decode cX8_common 2 = .ok (.invokevirtual 158, 3) := by decide +kernel
theorem dX8_common_5 : decode cX8_common 5 = .ok (.istore_n 1, 1) := by decide +kernel
theorem dX8_common_6 : decode cX8_common 6 = .ok (.iload_n 1, 1) := by decide +kernel
theorem dX8_common_7 : decode cX8_common 7 = .ok (.iconst (-1), 1) := by decide +kernel
theorem dX8_common_8 : decode cX8_common 8 = .ok (.if_icmp .ne 5, 3) := by decide +kernel
theorem dX8_common_11 : decode cX8_common 11 = .ok (.iconst (-1), 1) := by decide +kernel
theorem dX8_common_12 : decode cX8_common 12 = .ok (.ireturn, 1) := by decide +kernel
theorem dX8_common_13 : decode cX8_common 13 = .ok (.aload_n 0, 1) := by decide +kernel
theorem dX8_common_14 : decode cX8_common 14 = .ok (.getfield 7, 3) := by decide +kernel
theorem dX8_common_17 : decode cX8_common 17 = .ok (.bipush 14, 2) := by decide +kernel
theorem dX8_common_19 : decode cX8_common 19 = .ok (.iload_n 1, 1) := by decide +kernel
theorem dX8_common_20 : decode cX8_common 20 = .ok (.imul, 1) := by decide +kernel
theorem dX8_common_21 : decode cX8_common 21 = .ok (.iconst 3, 1) := by decide +kernel
theorem dX8_common_22 : decode cX8_common 22 = .ok (.iadd, 1) := by decide +kernel
theorem dX8_common_23 : decode cX8_common 23 = .ok (.iaload, 1) := by decide +kernel
theorem dX8_common_24 : decode cX8_common 24 = .ok (.istore_n 2, 1) := by decide +kernel
theorem dX8_common_25 : decode cX8_common 25 = .ok (.iconst 0, 1) := by decide +kernel
theorem dX8_common_26 : decode cX8_common 26 = .ok (.istore_n 3, 1) := by decide +kernel
theorem dX8_common_27 : decode cX8_common 27 = .ok (.iload_n 3, 1) := by decide +kernel
theorem dX8_common_28 : decode cX8_common 28 = .ok (.aload_n 0, 1) := by decide +kernel
theorem dX8_common_29 : decode cX8_common 29 = .ok (.getfield 7, 3) := by decide +kernel
theorem dX8_common_32 : decode cX8_common 32 = .ok (.sipush 2800, 3) := by decide +kernel
theorem dX8_common_35 : decode cX8_common 35 = .ok (.iaload, 1) := by decide +kernel
theorem dX8_common_36 : decode cX8_common 36 = .ok (.if_icmp .ge 55, 3) := by decide +kernel
theorem dX8_common_39 : decode cX8_common 39 = .ok (.aload_n 0, 1) := by decide +kernel
theorem dX8_common_40 : decode cX8_common 40 = .ok (.getfield 7, 3) := by decide +kernel
theorem dX8_common_43 : decode cX8_common 43 = .ok (.bipush 14, 2) := by decide +kernel
theorem dX8_common_45 : decode cX8_common 45 = .ok (.iload_n 3, 1) := by decide +kernel
theorem dX8_common_46 : decode cX8_common 46 = .ok (.imul, 1) := by decide +kernel
theorem dX8_common_47 : decode cX8_common 47 = .ok (.iaload, 1) := by decide +kernel
theorem dX8_common_48 : decode cX8_common 48 = .ok (.iconst 1, 1) := by decide +kernel
theorem dX8_common_49 : decode cX8_common 49 = .ok (.if_icmp .ne 20, 3) := by decide +kernel
theorem dX8_common_52 : decode cX8_common 52 = .ok (.aload_n 0, 1) := by decide +kernel
theorem dX8_common_53 : decode cX8_common 53 = .ok (.iload_n 3, 1) := by decide +kernel
theorem dX8_common_54 : decode cX8_common 54 = .ok (.invokevirtual 138, 3) := by decide +kernel
theorem dX8_common_57 : decode cX8_common 57 = .ok (.ifCond .eq 12, 3) := by decide +kernel
theorem dX8_common_60 : decode cX8_common 60 = .ok (.aload_n 0, 1) := by decide +kernel
theorem dX8_common_61 : decode cX8_common 61 = .ok (.iload_n 1, 1) := by decide +kernel
theorem dX8_common_62 : decode cX8_common 62 = .ok (.iload_n 3, 1) := by decide +kernel
theorem dX8_common_63 : decode cX8_common 63 = .ok (.invokevirtual 161, 3) := by decide +kernel
theorem dX8_common_66 : decode cX8_common 66 = .ok (.goto 4, 3) := by decide +kernel
theorem dX8_common_69 : decode cX8_common 69 = .ok (.iload_n 2, 1) := by decide +kernel
theorem dX8_common_70 : decode cX8_common 70 = .ok (.istore 4, 2) := by decide +kernel
theorem dX8_common_72 : decode cX8_common 72 = .ok (.iload 4, 2) := by decide +kernel
theorem dX8_common_74 : decode cX8_common 74 = .ok (.iload_n 2, 1) := by decide +kernel
theorem dX8_common_75 : decode cX8_common 75 = .ok (.if_icmp .ge 8, 3) := by decide +kernel
theorem dX8_common_78 : decode cX8_common 78 = .ok (.iload 4, 2) := by decide +kernel
theorem dX8_common_80 : decode cX8_common 80 = .ok (.goto 4, 3) := by decide +kernel
theorem dX8_common_83 : decode cX8_common 83 = .ok (.iload_n 2, 1) := by decide +kernel
theorem dX8_common_84 : decode cX8_common 84 = .ok (.istore_n 2, 1) := by decide +kernel
theorem dX8_common_85 : decode cX8_common 85 = .ok (.iinc 3 1, 3) := by decide +kernel
theorem dX8_common_88 : decode cX8_common 88 = .ok (.goto (-61), 3) := by decide +kernel
theorem dX8_common_91 : decode cX8_common 91 = .ok (.iload_n 2, 1) := by decide +kernel
theorem dX8_common_92 : decode cX8_common 92 = .ok (.aload_n 0, 1) := by decide +kernel
theorem dX8_common_93 : decode cX8_common 93 = .ok (.getfield 53, 3) := by decide +kernel
theorem dX8_common_96 : decode cX8_common 96 = .ok (.isub, 1) := by decide +kernel
theorem dX8_common_97 : decode cX8_common 97 = .ok (.ireturn, 1) := by decide +kernel
set_option maxRecDepth 20000 in
theorem ggX8_find_X8_foundBy : GoodIn wsX8_find wsX8_foundBy := goodIn_r _ [7, 8, 9, 10, 11, 12, 13, 14, 15, 16, 17, 18, 19, 20, 21, 22, 23, 24, 25, 26] (by decide +kernel) (by decide +kernel)
set_option maxRecDepth 20000 in
theorem gX8_find_X8_foundBy : GoodIn wsX8_find (wsV RX8 79 RX8 yX8_foundBy wsX8_foundBy) := goodIn_app (goodIn_of _ (by decide +kernel)) ggX8_find_X8_foundBy
theorem dX8_find_0 : decode cX8_find 0 = .ok (.aload_n 0, 1) := by decide +kernel
theorem dX8_find_1 : decode cX8_find 1 = .ok (.getfield 53, 3) := by decide +kernel
theorem dX8_find_4 : decode cX8_find 4 = .ok (.ifCond .ne 7, 3) := by decide +kernel
theorem dX8_find_7 : decode cX8_find 7 = .ok (.iconst (-1), 1) := by decide +kernel
theorem dX8_find_8 : decode cX8_find 8 = .ok (.goto 15, 3) := by decide +kernel
theorem dX8_find_11 : decode cX8_find 11 = .ok (.aload_n 0, 1) := by decide +kernel
theorem dX8_find_12 : decode cX8_find 12 = .ok (.aload_n 0, 1) := by decide +kernel
theorem dX8_find_13 : decode cX8_find 13 = .ok (.getfield 17, 3) := by decide +kernel
theorem dX8_find_16 : decode cX8_find 16 = .ok (.aload_n 0, 1) := by decide +kernel
theorem dX8_find_17 : decode cX8_find 17 = .ok (.getfield 53, 3) := by decide +kernel
theorem dX8_find_20 : decode cX8_find 20 = .ok (.invokevirtual 79, 3) := by decide +kernel
theorem dX8_find_23 : decode cX8_find 23 = .ok (.ireturn, 1) := by decide +kernel
set_option maxRecDepth 20000 in
theorem ggX8_keysOf_X8_sameOf : GoodIn wsX8_keysOf wsX8_sameOf := goodIn_r _ [6, 1, 7, 8, 9, 10, 11, 12, 13, 14, 15, 16, 17, 18, 19, 20, 21, 22, 23, 24] (by decide +kernel) (by decide +kernel)
set_option maxRecDepth 20000 in
theorem gX8_keysOf_X8_sameOf : GoodIn wsX8_keysOf (wsV RX8 161 RX8 yX8_sameOf wsX8_sameOf) := goodIn_app (goodIn_of _ (by decide +kernel)) ggX8_keysOf_X8_sameOf
theorem dX8_keysOf_0 : decode cX8_keysOf 0 = .ok (.iconst 0, 1) := by decide +kernel
theorem dX8_keysOf_1 : decode cX8_keysOf 1 = .ok (.istore_n 2, 1) := by decide +kernel
theorem dX8_keysOf_2 : decode cX8_keysOf 2 = .ok (.iconst 0, 1) := by decide +kernel
theorem dX8_keysOf_3 : decode cX8_keysOf 3 = .ok (.istore_n 3, 1) := by decide +kernel
theorem dX8_keysOf_4 : decode cX8_keysOf 4 = .ok (.iload_n 3, 1) := by decide +kernel
theorem dX8_keysOf_5 : decode cX8_keysOf 5 = .ok (.aload_n 0, 1) := by decide +kernel
theorem dX8_keysOf_6 : decode cX8_keysOf 6 = .ok (.getfield 7, 3) := by decide +kernel
theorem dX8_keysOf_9 : decode cX8_keysOf 9 = .ok (.sipush 2800, 3) := by decide +kernel
theorem dX8_keysOf_12 : decode cX8_keysOf 12 = .ok (.iaload, 1) := by decide +kernel
theorem dX8_keysOf_13 : decode cX8_keysOf 13 = .ok (.if_icmp .ge 92, 3) := by decide +kernel
theorem dX8_keysOf_16 : decode cX8_keysOf 16 = .ok (.aload_n 0, 1) := by decide +kernel
theorem dX8_keysOf_17 : decode cX8_keysOf 17 = .ok (.getfield 7, 3) := by decide +kernel
theorem dX8_keysOf_20 : decode cX8_keysOf 20 = .ok (.bipush 14, 2) := by decide +kernel
theorem dX8_keysOf_22 : decode cX8_keysOf 22 = .ok (.iload_n 3, 1) := by decide +kernel
theorem dX8_keysOf_23 : decode cX8_keysOf 23 = .ok (.imul, 1) := by decide +kernel
theorem dX8_keysOf_24 : decode cX8_keysOf 24 = .ok (.iconst 1, 1) := by decide +kernel
theorem dX8_keysOf_25 : decode cX8_keysOf 25 = .ok (.iadd, 1) := by decide +kernel
theorem dX8_keysOf_26 : decode cX8_keysOf 26 = .ok (.iaload, 1) := by decide +kernel
theorem dX8_keysOf_27 : decode cX8_keysOf 27 = .ok (.aload_n 0, 1) := by decide +kernel
theorem dX8_keysOf_28 : decode cX8_keysOf 28 = .ok (.getfield 7, 3) := by decide +kernel
theorem dX8_keysOf_31 : decode cX8_keysOf 31 = .ok (.bipush 14, 2) := by decide +kernel
theorem dX8_keysOf_33 : decode cX8_keysOf 33 = .ok (.iload_n 1, 1) := by decide +kernel
theorem dX8_keysOf_34 : decode cX8_keysOf 34 = .ok (.imul, 1) := by decide +kernel
theorem dX8_keysOf_35 : decode cX8_keysOf 35 = .ok (.iconst 1, 1) := by decide +kernel
theorem dX8_keysOf_36 : decode cX8_keysOf 36 = .ok (.iadd, 1) := by decide +kernel
theorem dX8_keysOf_37 : decode cX8_keysOf 37 = .ok (.iaload, 1) := by decide +kernel
theorem dX8_keysOf_38 : decode cX8_keysOf 38 = .ok (.isub, 1) := by decide +kernel
theorem dX8_keysOf_39 : decode cX8_keysOf 39 = .ok (.istore 4, 2) := by decide +kernel
theorem dX8_keysOf_41 : decode cX8_keysOf 41 = .ok (.iload_n 3, 1) := by decide +kernel
theorem dX8_keysOf_42 : decode cX8_keysOf 42 = .ok (.iload_n 1, 1) := by decide +kernel
theorem dX8_keysOf_43 : decode cX8_keysOf 43 = .ok (.if_icmp .eq 56, 3) := by decide +kernel
theorem dX8_keysOf_46 : decode cX8_keysOf 46 = .ok (.aload_n 0, 1) := by decide +kernel
theorem dX8_keysOf_47 : decode cX8_keysOf 47 = .ok (.getfield 7, 3) := by decide +kernel
theorem dX8_keysOf_50 : decode cX8_keysOf 50 = .ok (.bipush 14, 2) := by decide +kernel
theorem dX8_keysOf_52 : decode cX8_keysOf 52 = .ok (.iload_n 3, 1) := by decide +kernel
theorem dX8_keysOf_53 : decode cX8_keysOf 53 = .ok (.imul, 1) := by decide +kernel
theorem dX8_keysOf_54 : decode cX8_keysOf 54 = .ok (.iaload, 1) := by decide +kernel
theorem dX8_keysOf_55 : decode cX8_keysOf 55 = .ok (.iconst 1, 1) := by decide +kernel
theorem dX8_keysOf_56 : decode cX8_keysOf 56 = .ok (.if_icmp .ne 43, 3) := by decide +kernel
theorem dX8_keysOf_59 : decode cX8_keysOf 59 = .ok (.iload 4, 2) := by decide +kernel
theorem dX8_keysOf_61 : decode cX8_keysOf 61 = .ok (.ifCond .gt 13, 3) := by decide +kernel
theorem dX8_keysOf_64 : decode cX8_keysOf 64 = .ok (.iload 4, 2) := by decide +kernel
theorem dX8_keysOf_66 : decode cX8_keysOf 66 = .ok (.ifCond .ne 33, 3) := by decide +kernel
theorem dX8_keysOf_69 : decode cX8_keysOf 69 = .ok (.iload_n 3, 1) := by decide +kernel
theorem dX8_keysOf_70 : decode cX8_keysOf 70 = .ok (.iload_n 1, 1) := by decide +kernel
theorem dX8_keysOf_71 : decode cX8_keysOf 71 = .ok (.if_icmp .ge 28, 3) := by decide +kernel
theorem dX8_keysOf_74 : decode cX8_keysOf 74 = .ok (.aload_n 0, 1) := by decide +kernel
theorem dX8_keysOf_75 : decode cX8_keysOf 75 = .ok (.iload_n 1, 1) := by decide +kernel
theorem dX8_keysOf_76 : decode cX8_keysOf 76 = .ok (.iload_n 3, 1) := by decide +kernel
theorem dX8_keysOf_77 : decode cX8_keysOf 77 = .ok (.invokevirtual 161, 3) := by decide +kernel
theorem dX8_keysOf_80 : decode cX8_keysOf 80 = .ok (.istore 5, 2) := by decide +kernel
theorem dX8_keysOf_82 : decode cX8_keysOf 82 = .ok (.iload 5, 2) := by decide +kernel
theorem dX8_keysOf_84 : decode cX8_keysOf 84 = .ok (.iconst 1, 1) := by decide +kernel
theorem dX8_keysOf_85 : decode cX8_keysOf 85 = .ok (.iadd, 1) := by decide +kernel
theorem dX8_keysOf_86 : decode cX8_keysOf 86 = .ok (.iload_n 2, 1) := by decide +kernel
theorem dX8_keysOf_87 : decode cX8_keysOf 87 = .ok (.if_icmp .le 10, 3) := by decide +kernel
theorem dX8_keysOf_90 : decode cX8_keysOf 90 = .ok (.iload 5, 2) := by decide +kernel
theorem dX8_keysOf_92 : decode cX8_keysOf 92 = .ok (.iconst 1, 1) := by decide +kernel
theorem dX8_keysOf_93 : decode cX8_keysOf 93 = .ok (.iadd, 1) := by decide +kernel
theorem dX8_keysOf_94 : decode cX8_keysOf 94 = .ok (.goto 4, 3) := by decide +kernel
theorem dX8_keysOf_97 : decode cX8_keysOf 97 = .ok (.iload_n 2, 1) := by decide +kernel
theorem dX8_keysOf_98 : decode cX8_keysOf 98 = .ok (.istore_n 2, 1) := by decide +kernel
theorem dX8_keysOf_99 : decode cX8_keysOf 99 = .ok (.iinc 3 1, 3) := by decide +kernel
theorem dX8_keysOf_102 : decode cX8_keysOf 102 = .ok (.goto (-98), 3) := by decide +kernel
theorem dX8_keysOf_105 : decode cX8_keysOf 105 = .ok (.iload_n 2, 1) := by decide +kernel
theorem dX8_keysOf_106 : decode cX8_keysOf 106 = .ok (.aload_n 0, 1) := by decide +kernel
theorem dX8_keysOf_107 : decode cX8_keysOf 107 = .ok (.getfield 7, 3) := by decide +kernel
theorem dX8_keysOf_110 : decode cX8_keysOf 110 = .ok (.bipush 14, 2) := by decide +kernel
theorem dX8_keysOf_112 : decode cX8_keysOf 112 = .ok (.iload_n 1, 1) := by decide +kernel
theorem dX8_keysOf_113 : decode cX8_keysOf 113 = .ok (.imul, 1) := by decide +kernel
theorem dX8_keysOf_114 : decode cX8_keysOf 114 = .ok (.iconst 3, 1) := by decide +kernel
theorem dX8_keysOf_115 : decode cX8_keysOf 115 = .ok (.iadd, 1) := by decide +kernel
theorem dX8_keysOf_116 : decode cX8_keysOf 116 = .ok (.iaload, 1) := by decide +kernel
theorem dX8_keysOf_117 : decode cX8_keysOf 117 = .ok (.if_icmp .le 7, 3) := by decide +kernel
theorem dX8_keysOf_120 : decode cX8_keysOf 120 = .ok (.iconst (-1), 1) := by decide +kernel
theorem dX8_keysOf_121 : decode cX8_keysOf 121 = .ok (.goto 4, 3) := by decide +kernel
theorem dX8_keysOf_124 : decode cX8_keysOf 124 = .ok (.iload_n 2, 1) := by decide +kernel
theorem dX8_keysOf_125 : decode cX8_keysOf 125 = .ok (.ireturn, 1) := by decide +kernel
set_option maxRecDepth 20000 in
theorem ggX8_keys_X8_isThere : GoodIn wsX8_keys wsX8_isThere := goodIn_r _ [5, 6, 7, 8, 4, 9, 23, 24, 25, 26, 27, 28, 29, 30, 31, 32, 33, 34, 35, 36, 37, 38, 39, 40] (by decide +kernel) (by decide +kernel)
set_option maxRecDepth 20000 in
theorem gX8_keys_X8_isThere : GoodIn wsX8_keys (wsV RX8 68 RX8 yX8_isThere wsX8_isThere) := goodIn_app (goodIn_of _ (by decide +kernel)) ggX8_keys_X8_isThere
set_option maxRecDepth 20000 in
theorem ggX8_keys_X8_keysOf : GoodIn wsX8_keys wsX8_keysOf := goodIn_r _ [13, 6, 14, 15, 16, 4, 17, 23, 24, 25, 26, 27, 28, 29, 30, 31, 32, 33, 34, 35, 36, 37, 38, 39, 40] (by decide +kernel) (by decide +kernel)
set_option maxRecDepth 20000 in
theorem gX8_keys_X8_keysOf : GoodIn wsX8_keys (wsV RX8 165 RX8 yX8_keysOf wsX8_keysOf) := goodIn_app (goodIn_of _ (by decide +kernel)) ggX8_keys_X8_keysOf
set_option maxRecDepth 20000 in
theorem ggX8_keys_X8_bad : GoodIn wsX8_keys wsX8_bad := goodIn_r _ [21, 22, 23, 24, 25, 26, 27, 28, 29, 30, 31, 32, 33, 34, 35, 36, 37, 38, 39, 40] (by decide +kernel) (by decide +kernel)
set_option maxRecDepth 20000 in
theorem gX8_keys_X8_bad : GoodIn wsX8_keys (wsV RX8 59 RX8 yX8_bad wsX8_bad) := goodIn_app (goodIn_of _ (by decide +kernel)) ggX8_keys_X8_bad
theorem dX8_keys_0 : decode cX8_keys 0 = .ok (.aload_n 0, 1) := by decide +kernel
theorem dX8_keys_1 : decode cX8_keys 1 = .ok (.iload_n 1, 1) := by decide +kernel
theorem dX8_keys_2 : decode cX8_keys 2 = .ok (.invokevirtual 68, 3) := by decide +kernel
theorem dX8_keys_5 : decode cX8_keys 5 = .ok (.ifCond .eq 11, 3) := by decide +kernel
theorem dX8_keys_8 : decode cX8_keys 8 = .ok (.aload_n 0, 1) := by decide +kernel
theorem dX8_keys_9 : decode cX8_keys 9 = .ok (.iload_n 1, 1) := by decide +kernel
theorem dX8_keys_10 : decode cX8_keys 10 = .ok (.invokevirtual 165, 3) := by decide +kernel
theorem dX8_keys_13 : decode cX8_keys 13 = .ok (.goto 7, 3) := by decide +kernel
theorem dX8_keys_16 : decode cX8_keys 16 = .ok (.aload_n 0, 1) := by decide +kernel
theorem dX8_keys_17 : decode cX8_keys 17 = .ok (.invokevirtual 59, 3) := by decide +kernel
theorem dX8_keys_20 : decode cX8_keys 20 = .ok (.ireturn, 1) := by decide +kernel
set_option maxRecDepth 20000 in
theorem ggX8_saved_X8_keysOf : GoodIn wsX8_saved wsX8_keysOf := goodIn_r _ [6, 1, 7, 8, 9, 5, 10, 11, 12, 13, 14, 15, 16, 17, 18, 19, 20, 21, 22, 23, 24, 25, 26, 27, 28] (by decide +kernel) (by decide +kernel)
set_option maxRecDepth 20000 in
theorem gX8_saved_X8_keysOf : GoodIn wsX8_saved (wsV RX8 165 RX8 yX8_keysOf wsX8_keysOf) := goodIn_app (goodIn_of _ (by decide +kernel)) ggX8_saved_X8_keysOf
theorem dX8_saved_0 : decode cX8_saved 0 = .ok (.iconst 0, 1) := by decide +kernel
theorem dX8_saved_1 : decode cX8_saved 1 = .ok (.istore_n 1, 1) := by decide +kernel
theorem dX8_saved_2 : decode cX8_saved 2 = .ok (.iconst 0, 1) := by decide +kernel
theorem dX8_saved_3 : decode cX8_saved 3 = .ok (.istore_n 2, 1) := by decide +kernel
theorem dX8_saved_4 : decode cX8_saved 4 = .ok (.iload_n 2, 1) := by decide +kernel
theorem dX8_saved_5 : decode cX8_saved 5 = .ok (.aload_n 0, 1) := by decide +kernel
theorem dX8_saved_6 : decode cX8_saved 6 = .ok (.getfield 7, 3) := by decide +kernel
theorem dX8_saved_9 : decode cX8_saved 9 = .ok (.sipush 2800, 3) := by decide +kernel
theorem dX8_saved_12 : decode cX8_saved 12 = .ok (.iaload, 1) := by decide +kernel
theorem dX8_saved_13 : decode cX8_saved 13 = .ok (.if_icmp .ge 57, 3) := by decide +kernel
theorem dX8_saved_16 : decode cX8_saved 16 = .ok (.aload_n 0, 1) := by decide +kernel
theorem dX8_saved_17 : decode cX8_saved 17 = .ok (.getfield 7, 3) := by decide +kernel
theorem dX8_saved_20 : decode cX8_saved 20 = .ok (.bipush 14, 2) := by decide +kernel
theorem dX8_saved_22 : decode cX8_saved 22 = .ok (.iload_n 2, 1) := by decide +kernel
theorem dX8_saved_23 : decode cX8_saved 23 = .ok (.imul, 1) := by decide +kernel
theorem dX8_saved_24 : decode cX8_saved 24 = .ok (.iaload, 1) := by decide +kernel
theorem dX8_saved_25 : decode cX8_saved 25 = .ok (.iconst 1, 1) := by decide +kernel
theorem dX8_saved_26 : decode cX8_saved 26 = .ok (.if_icmp .ne 11, 3) := by decide +kernel
theorem dX8_saved_29 : decode cX8_saved 29 = .ok (.aload_n 0, 1) := by decide +kernel
theorem dX8_saved_30 : decode cX8_saved 30 = .ok (.iload_n 2, 1) := by decide +kernel
theorem dX8_saved_31 : decode cX8_saved 31 = .ok (.invokevirtual 165, 3) := by decide +kernel
theorem dX8_saved_34 : decode cX8_saved 34 = .ok (.goto 4, 3) := by decide +kernel
theorem dX8_saved_37 : decode cX8_saved 37 = .ok (.iconst (-1), 1) := by decide +kernel
theorem dX8_saved_38 : decode cX8_saved 38 = .ok (.istore_n 3, 1) := by decide +kernel
theorem dX8_saved_39 : decode cX8_saved 39 = .ok (.iload_n 1, 1) := by decide +kernel
theorem dX8_saved_40 : decode cX8_saved 40 = .ok (.iload_n 3, 1) := by decide +kernel
theorem dX8_saved_41 : decode cX8_saved 41 = .ok (.iconst (-1), 1) := by decide +kernel
theorem dX8_saved_42 : decode cX8_saved 42 = .ok (.if_icmp .ne 7, 3) := by decide +kernel
theorem dX8_saved_45 : decode cX8_saved 45 = .ok (.iconst 0, 1) := by decide +kernel
theorem dX8_saved_46 : decode cX8_saved 46 = .ok (.goto 16, 3) := by decide +kernel
theorem dX8_saved_49 : decode cX8_saved 49 = .ok (.aload_n 0, 1) := by decide +kernel
theorem dX8_saved_50 : decode cX8_saved 50 = .ok (.getfield 7, 3) := by decide +kernel
theorem dX8_saved_53 : decode cX8_saved 53 = .ok (.bipush 14, 2) := by decide +kernel
theorem dX8_saved_55 : decode cX8_saved 55 = .ok (.iload_n 2, 1) := by decide +kernel
theorem dX8_saved_56 : decode cX8_saved 56 = .ok (.imul, 1) := by decide +kernel
theorem dX8_saved_57 : decode cX8_saved 57 = .ok (.iconst 3, 1) := by decide +kernel
theorem dX8_saved_58 : decode cX8_saved 58 = .ok (.iadd, 1) := by decide +kernel
theorem dX8_saved_59 : decode cX8_saved 59 = .ok (.iaload, 1) := by decide +kernel
theorem dX8_saved_60 : decode cX8_saved 60 = .ok (.iload_n 3, 1) := by decide +kernel
theorem dX8_saved_61 : decode cX8_saved 61 = .ok (.isub, 1) := by decide +kernel
theorem dX8_saved_62 : decode cX8_saved 62 = .ok (.iadd, 1) := by decide +kernel
theorem dX8_saved_63 : decode cX8_saved 63 = .ok (.istore_n 1, 1) := by decide +kernel
theorem dX8_saved_64 : decode cX8_saved 64 = .ok (.iinc 2 1, 3) := by decide +kernel
theorem dX8_saved_67 : decode cX8_saved 67 = .ok (.goto (-63), 3) := by decide +kernel
theorem dX8_saved_70 : decode cX8_saved 70 = .ok (.iload_n 1, 1) := by decide +kernel
theorem dX8_saved_71 : decode cX8_saved 71 = .ok (.ireturn, 1) := by decide +kernel
set_option maxRecDepth 20000 in
theorem ggX8_twins_X8_isThere : GoodIn wsX8_twins wsX8_isThere := goodIn_r _ [6, 1, 7, 8, 5, 9, 15, 16, 17, 18, 19, 20, 21, 22, 23, 24, 25, 26, 27, 28, 29, 30, 31, 32] (by decide +kernel) (by decide +kernel)
set_option maxRecDepth 20000 in
theorem gX8_twins_X8_isThere : GoodIn wsX8_twins (wsV RX8 68 RX8 yX8_isThere wsX8_isThere) := goodIn_app (goodIn_of _ (by decide +kernel)) ggX8_twins_X8_isThere
set_option maxRecDepth 20000 in
theorem ggX8_twins_X8_bad : GoodIn wsX8_twins wsX8_bad := goodIn_r _ [13, 14, 15, 16, 17, 18, 19, 20, 21, 22, 23, 24, 25, 26, 27, 28, 29, 30, 31, 32] (by decide +kernel) (by decide +kernel)
set_option maxRecDepth 20000 in
theorem gX8_twins_X8_bad : GoodIn wsX8_twins (wsV RX8 59 RX8 yX8_bad wsX8_bad) := goodIn_app (goodIn_of _ (by decide +kernel)) ggX8_twins_X8_bad
theorem dX8_twins_0 : decode cX8_twins 0 = .ok (.aload_n 0, 1) := by decide +kernel
theorem dX8_twins_1 : decode cX8_twins 1 = .ok (.iload_n 1, 1) := by decide +kernel
theorem dX8_twins_2 : decode cX8_twins 2 = .ok (.invokevirtual 68, 3) := by decide +kernel
theorem dX8_twins_5 : decode cX8_twins 5 = .ok (.ifCond .ne 8, 3) := by decide +kernel
theorem dX8_twins_8 : decode cX8_twins 8 = .ok (.aload_n 0, 1) := by decide +kernel
theorem dX8_twins_9 : decode cX8_twins 9 = .ok (.invokevirtual 59, 3) := by decide +kernel
theorem dX8_twins_12 : decode cX8_twins 12 = .ok (.ireturn, 1) := by decide +kernel
theorem dX8_twins_13 : decode cX8_twins 13 = .ok (.aload_n 0, 1) := by decide +kernel
theorem dX8_twins_14 : decode cX8_twins 14 = .ok (.getfield 7, 3) := by decide +kernel
theorem dX8_twins_17 : decode cX8_twins 17 = .ok (.bipush 14, 2) := by decide +kernel
theorem dX8_twins_19 : decode cX8_twins 19 = .ok (.iload_n 1, 1) := by decide +kernel
theorem dX8_twins_20 : decode cX8_twins 20 = .ok (.imul, 1) := by decide +kernel
theorem dX8_twins_21 : decode cX8_twins 21 = .ok (.iconst 2, 1) := by decide +kernel
theorem dX8_twins_22 : decode cX8_twins 22 = .ok (.iadd, 1) := by decide +kernel
theorem dX8_twins_23 : decode cX8_twins 23 = .ok (.iaload, 1) := by decide +kernel
theorem dX8_twins_24 : decode cX8_twins 24 = .ok (.istore_n 2, 1) := by decide +kernel
theorem dX8_twins_25 : decode cX8_twins 25 = .ok (.iconst 0, 1) := by decide +kernel
theorem dX8_twins_26 : decode cX8_twins 26 = .ok (.istore_n 3, 1) := by decide +kernel
theorem dX8_twins_27 : decode cX8_twins 27 = .ok (.iconst 0, 1) := by decide +kernel
theorem dX8_twins_28 : decode cX8_twins 28 = .ok (.istore 4, 2) := by decide +kernel
theorem dX8_twins_30 : decode cX8_twins 30 = .ok (.iload 4, 2) := by decide +kernel
theorem dX8_twins_32 : decode cX8_twins 32 = .ok (.aload_n 0, 1) := by decide +kernel
theorem dX8_twins_33 : decode cX8_twins 33 = .ok (.getfield 7, 3) := by decide +kernel
theorem dX8_twins_36 : decode cX8_twins 36 = .ok (.sipush 2800, 3) := by decide +kernel
theorem dX8_twins_39 : decode cX8_twins 39 = .ok (.iaload, 1) := by decide +kernel
theorem dX8_twins_40 : decode cX8_twins 40 = .ok (.if_icmp .ge 57, 3) := by decide +kernel
theorem dX8_twins_43 : decode cX8_twins 43 = .ok (.iload_n 3, 1) := by decide +kernel
theorem dX8_twins_44 : decode cX8_twins 44 = .ok (.iload 4, 2) := by decide +kernel
theorem dX8_twins_46 : decode cX8_twins 46 = .ok (.iload_n 1, 1) := by decide +kernel
theorem dX8_twins_47 : decode cX8_twins 47 = .ok (.if_icmp .eq 41, 3) := by decide +kernel
theorem dX8_twins_50 : decode cX8_twins 50 = .ok (.iload_n 2, 1) := by decide +kernel
theorem dX8_twins_51 : decode cX8_twins 51 = .ok (.ifCond .le 37, 3) := by decide +kernel
theorem dX8_twins_54 : decode cX8_twins 54 = .ok (.aload_n 0, 1) := by decide +kernel
theorem dX8_twins_55 : decode cX8_twins 55 = .ok (.getfield 7, 3) := by decide +kernel
theorem dX8_twins_58 : decode cX8_twins 58 = .ok (.bipush 14, 2) := by decide +kernel
theorem dX8_twins_60 : decode cX8_twins 60 = .ok (.iload 4, 2) := by decide +kernel
theorem dX8_twins_62 : decode cX8_twins 62 = .ok (.imul, 1) := by decide +kernel
theorem dX8_twins_63 : decode cX8_twins 63 = .ok (.iaload, 1) := by decide +kernel
theorem dX8_twins_64 : decode cX8_twins 64 = .ok (.iconst 1, 1) := by decide +kernel
theorem dX8_twins_65 : decode cX8_twins 65 = .ok (.if_icmp .ne 23, 3) := by decide +kernel
theorem dX8_twins_68 : decode cX8_twins 68 = .ok (.aload_n 0, 1) := by decide +kernel
theorem dX8_twins_69 : decode cX8_twins 69 = .ok (.getfield 7, 3) := by decide +kernel
theorem dX8_twins_72 : decode cX8_twins 72 = .ok (.bipush 14, 2) := by decide +kernel
theorem dX8_twins_74 : decode cX8_twins 74 = .ok (.iload 4, 2) := by decide +kernel
theorem dX8_twins_76 : decode cX8_twins 76 = .ok (.imul, 1) := by decide +kernel
theorem dX8_twins_77 : decode cX8_twins 77 = .ok (.iconst 2, 1) := by decide +kernel
theorem dX8_twins_78 : decode cX8_twins 78 = .ok (.iadd, 1) := by decide +kernel
theorem dX8_twins_79 : decode cX8_twins 79 = .ok (.iaload, 1) := by decide +kernel
theorem dX8_twins_80 : decode cX8_twins 80 = .ok (.iload_n 2, 1) := by decide +kernel
theorem dX8_twins_81 : decode cX8_twins 81 = .ok (.if_icmp .ne 7, 3) := by decide +kernel
theorem dX8_twins_84 : decode cX8_twins 84 = .ok (.iconst 1, 1) := by decide +kernel
theorem dX8_twins_85 : decode cX8_twins 85 = .ok (.goto 4, 3) := by decide +kernel
theorem dX8_twins_88 : decode cX8_twins 88 = .ok (.iconst 0, 1) := by decide +kernel
theorem dX8_twins_89 : decode cX8_twins 89 = .ok (.iadd, 1) := by decide +kernel
theorem dX8_twins_90 : decode cX8_twins 90 = .ok (.istore_n 3, 1) := by decide +kernel
theorem dX8_twins_91 : decode cX8_twins 91 = .ok (.iinc 4 1, 3) := by decide +kernel
theorem dX8_twins_94 : decode cX8_twins 94 = .ok (.goto (-64), 3) := by decide +kernel
theorem dX8_twins_97 : decode cX8_twins 97 = .ok (.iload_n 3, 1) := by decide +kernel
theorem dX8_twins_98 : decode cX8_twins 98 = .ok (.ireturn, 1) := by decide +kernel
set_option maxRecDepth 20000 in
theorem ggX8_alike_X8_isThere : GoodIn wsX8_alike wsX8_isThere := goodIn_r _ [5, 6, 7, 8, 4, 9, 19, 20, 21, 22, 23, 24, 25, 26, 27, 28, 29, 30, 31, 32, 33, 34, 35, 36] (by decide +kernel) (by decide +kernel)
set_option maxRecDepth 20000 in
theorem gX8_alike_X8_isThere : GoodIn wsX8_alike (wsV RX8 68 RX8 yX8_isThere wsX8_isThere) := goodIn_app (goodIn_of _ (by decide +kernel)) ggX8_alike_X8_isThere
set_option maxRecDepth 20000 in
theorem ggX8_alike_X8_sameOf : GoodIn wsX8_alike wsX8_sameOf := goodIn_r _ [13, 6, 19, 20, 21, 22, 23, 24, 25, 26, 27, 28, 29, 30, 31, 32, 33, 34, 35, 36] (by decide +kernel) (by decide +kernel)
set_option maxRecDepth 20000 in
theorem gX8_alike_X8_sameOf : GoodIn wsX8_alike (wsV RX8 161 RX8 yX8_sameOf wsX8_sameOf) := goodIn_app (goodIn_of _ (by decide +kernel)) ggX8_alike_X8_sameOf
set_option maxRecDepth 20000 in
theorem ggX8_alike_X8_bad : GoodIn wsX8_alike wsX8_bad := goodIn_r _ [17, 18, 19, 20, 21, 22, 23, 24, 25, 26, 27, 28, 29, 30, 31, 32, 33, 34, 35, 36] (by decide +kernel) (by decide +kernel)
set_option maxRecDepth 20000 in
theorem gX8_alike_X8_bad : GoodIn wsX8_alike (wsV RX8 59 RX8 yX8_bad wsX8_bad) := goodIn_app (goodIn_of _ (by decide +kernel)) ggX8_alike_X8_bad
theorem dX8_alike_0 : decode cX8_alike 0 = .ok (.aload_n 0, 1) := by decide +kernel
theorem dX8_alike_1 : decode cX8_alike 1 = .ok (.iload_n 1, 1) := by decide +kernel
theorem dX8_alike_2 : decode cX8_alike 2 = .ok (.invokevirtual 68, 3) := by decide +kernel
theorem dX8_alike_5 : decode cX8_alike 5 = .ok (.ifCond .eq 20, 3) := by decide +kernel
theorem dX8_alike_8 : decode cX8_alike 8 = .ok (.aload_n 0, 1) := by decide +kernel
theorem dX8_alike_9 : decode cX8_alike 9 = .ok (.iload_n 2, 1) := by decide +kernel
theorem dX8_alike_10 : decode cX8_alike 10 = .ok (.invokevirtual 68, 3) := by decide +kernel
theorem dX8_alike_13 : decode cX8_alike 13 = .ok (.ifCond .eq 12, 3) := by decide +kernel
theorem dX8_alike_16 : decode cX8_alike 16 = .ok (.aload_n 0, 1) := by decide +kernel
theorem dX8_alike_17 : decode cX8_alike 17 = .ok (.iload_n 1, 1) := by decide +kernel
theorem dX8_alike_18 : decode cX8_alike 18 = .ok (.iload_n 2, 1) := by decide +kernel
theorem dX8_alike_19 : decode cX8_alike 19 = .ok (.invokevirtual 161, 3) := by decide +kernel
theorem dX8_alike_22 : decode cX8_alike 22 = .ok (.goto 7, 3) := by decide +kernel
theorem dX8_alike_25 : decode cX8_alike 25 = .ok (.aload_n 0, 1) := by decide +kernel
theorem dX8_alike_26 : decode cX8_alike 26 = .ok (.invokevirtual 59, 3) := by decide +kernel
theorem dX8_alike_29 : decode cX8_alike 29 = .ok (.ireturn, 1) := by decide +kernel
set_option maxRecDepth 20000 in
theorem ggX8_write_X8_in : GoodIn wsX8_write wsX8_in := goodIn_r _ [6] (by decide +kernel) (by decide +kernel)
set_option maxRecDepth 20000 in
theorem gX8_write_X8_in : GoodIn wsX8_write (va_wsS RX8 42 yX8_in wsX8_in) := goodIn_app (goodIn_of _ (by decide +kernel)) ggX8_write_X8_in
set_option maxRecDepth 20000 in
theorem ggX8_write_X8_bad : GoodIn wsX8_write wsX8_bad := goodIn_r _ [10, 11, 16, 17, 18, 19, 20, 21, 22, 23, 24, 25, 26, 27, 28, 29, 30, 31, 32, 33] (by decide +kernel) (by decide +kernel)
set_option maxRecDepth 20000 in
theorem gX8_write_X8_bad : GoodIn wsX8_write (wsV RX8 59 RX8 yX8_bad wsX8_bad) := goodIn_app (goodIn_of _ (by decide +kernel)) ggX8_write_X8_bad
set_option maxRecDepth 20000 in
theorem ggX8_write_X8_full : GoodIn wsX8_write wsX8_full := goodIn_r _ [15, 11, 16, 17, 18, 19, 20, 21, 22, 23, 24, 25, 26, 27, 28, 29, 30, 31, 32, 33] (by decide +kernel) (by decide +kernel)
set_option maxRecDepth 20000 in
theorem gX8_write_X8_full : GoodIn wsX8_write (wsV RX8 62 RX8 yX8_full wsX8_full) := goodIn_app (goodIn_of _ (by decide +kernel)) ggX8_write_X8_full
theorem dX8_write_0 : decode cX8_write 0 = .ok (.iload_n 1, 1) := by decide +kernel
theorem dX8_write_1 : decode cX8_write 1 = .ok (.iconst 0, 1) := by decide +kernel
theorem dX8_write_2 : decode cX8_write 2 = .ok (.bipush 127, 2) := by decide +kernel
theorem dX8_write_4 : decode cX8_write 4 = .ok (.invokestatic 42, 3) := by decide +kernel
theorem dX8_write_7 : decode cX8_write 7 = .ok (.ifCond .ne 8, 3) := by decide +kernel
theorem dX8_write_10 : decode cX8_write 10 = .ok (.aload_n 0, 1) := by decide +kernel
theorem dX8_write_11 : decode cX8_write 11 = .ok (.invokevirtual 59, 3) := by decide +kernel
theorem dX8_write_14 : decode cX8_write 14 = .ok (.ireturn, 1) := by decide +kernel
theorem dX8_write_15 : decode cX8_write 15 = .ok (.aload_n 0, 1) := by decide +kernel
theorem dX8_write_16 : decode cX8_write 16 = .ok (.getfield 56, 3) := by decide +kernel
theorem dX8_write_19 : decode cX8_write 19 = .ok (.bipush 120, 2) := by decide +kernel
theorem dX8_write_21 : decode cX8_write 21 = .ok (.if_icmp .ne 8, 3) := by decide +kernel
theorem dX8_write_24 : decode cX8_write 24 = .ok (.aload_n 0, 1) := by decide +kernel
theorem dX8_write_25 : decode cX8_write 25 = .ok (.invokevirtual 62, 3) := by decide +kernel
theorem dX8_write_28 : decode cX8_write 28 = .ok (.ireturn, 1) := by decide +kernel
theorem dX8_write_29 : decode cX8_write 29 = .ok (.aload_n 0, 1) := by decide +kernel
theorem dX8_write_30 : decode cX8_write 30 = .ok (.getfield 20, 3) := by decide +kernel
theorem dX8_write_33 : decode cX8_write 33 = .ok (.aload_n 0, 1) := by decide +kernel
theorem dX8_write_34 : decode cX8_write 34 = .ok (.getfield 56, 3) := by decide +kernel
theorem dX8_write_37 : decode cX8_write 37 = .ok (.iload_n 1, 1) := by decide +kernel
theorem dX8_write_38 : decode cX8_write 38 = .ok (.iastore, 1) := by decide +kernel
theorem dX8_write_39 : decode cX8_write 39 = .ok (.aload_n 0, 1) := by decide +kernel
theorem dX8_write_40 : decode cX8_write 40 = .ok (.dup, 1) := by decide +kernel
theorem dX8_write_41 : decode cX8_write 41 = .ok (.getfield 56, 3) := by decide +kernel
theorem dX8_write_44 : decode cX8_write 44 = .ok (.iconst 1, 1) := by decide +kernel
theorem dX8_write_45 : decode cX8_write 45 = .ok (.iadd, 1) := by decide +kernel
theorem dX8_write_46 : decode cX8_write 46 = .ok (.putfield 56, 3) := by decide +kernel
theorem dX8_write_49 : decode cX8_write 49 = .ok (.aload_n 0, 1) := by decide +kernel
theorem dX8_write_50 : decode cX8_write 50 = .ok (.getfield 56, 3) := by decide +kernel
theorem dX8_write_53 : decode cX8_write 53 = .ok (.ireturn, 1) := by decide +kernel
theorem dX8_erase_0 : decode cX8_erase 0 = .ok (.aload_n 0, 1) := by decide +kernel
theorem dX8_erase_1 : decode cX8_erase 1 = .ok (.getfield 56, 3) := by decide +kernel
theorem dX8_erase_4 : decode cX8_erase 4 = .ok (.istore_n 1, 1) := by decide +kernel
theorem dX8_erase_5 : decode cX8_erase 5 = .ok (.aload_n 0, 1) := by decide +kernel
theorem dX8_erase_6 : decode cX8_erase 6 = .ok (.iconst 0, 1) := by decide +kernel
theorem dX8_erase_7 : decode cX8_erase 7 = .ok (.putfield 56, 3) := by decide +kernel
theorem dX8_erase_10 : decode cX8_erase 10 = .ok (.iload_n 1, 1) := by decide +kernel
theorem dX8_erase_11 : decode cX8_erase 11 = .ok (.ireturn, 1) := by decide +kernel
theorem dX8_here_0 : decode cX8_here 0 = .ok (.aload_n 0, 1) := by decide +kernel
theorem dX8_here_1 : decode cX8_here 1 = .ok (.getfield 168, 3) := by decide +kernel
theorem dX8_here_4 : decode cX8_here 4 = .ok (.aload_n 0, 1) := by decide +kernel
theorem dX8_here_5 : decode cX8_here 5 = .ok (.getfield 56, 3) := by decide +kernel
theorem dX8_here_8 : decode cX8_here 8 = .ok (.if_icmp .ge 30, 3) := by decide +kernel
theorem dX8_here_11 : decode cX8_here 11 = .ok (.aload_n 0, 1) := by decide +kernel
theorem dX8_here_12 : decode cX8_here 12 = .ok (.getfield 20, 3) := by decide +kernel
theorem dX8_here_15 : decode cX8_here 15 = .ok (.aload_n 0, 1) := by decide +kernel
theorem dX8_here_16 : decode cX8_here 16 = .ok (.getfield 168, 3) := by decide +kernel
theorem dX8_here_19 : decode cX8_here 19 = .ok (.iaload, 1) := by decide +kernel
theorem dX8_here_20 : decode cX8_here 20 = .ok (.bipush 32, 2) := by decide +kernel
theorem dX8_here_22 : decode cX8_here 22 = .ok (.if_icmp .ne 16, 3) := by decide +kernel
theorem dX8_here_25 : decode cX8_here 25 = .ok (.aload_n 0, 1) := by decide +kernel
theorem dX8_here_26 : decode cX8_here 26 = .ok (.dup, 1) := by decide +kernel
theorem dX8_here_27 : decode cX8_here 27 = .ok (.getfield 168, 3) := by decide +kernel
theorem dX8_here_30 : decode cX8_here 30 = .ok (.iconst 1, 1) := by decide +kernel
theorem dX8_here_31 : decode cX8_here 31 = .ok (.iadd, 1) := by decide +kernel
theorem dX8_here_32 : decode cX8_here 32 = .ok (.putfield 168, 3) := by decide +kernel
theorem dX8_here_35 : decode cX8_here 35 = .ok (.goto (-35), 3) := by decide +kernel
theorem dX8_here_38 : decode cX8_here 38 = .ok (.aload_n 0, 1) := by decide +kernel
theorem dX8_here_39 : decode cX8_here 39 = .ok (.getfield 168, 3) := by decide +kernel
theorem dX8_here_42 : decode cX8_here 42 = .ok (.aload_n 0, 1) := by decide +kernel
theorem dX8_here_43 : decode cX8_here 43 = .ok (.getfield 56, 3) := by decide +kernel
theorem dX8_here_46 : decode cX8_here 46 = .ok (.if_icmp .ge 15, 3) := by decide +kernel
theorem dX8_here_49 : decode cX8_here 49 = .ok (.aload_n 0, 1) := by decide +kernel
theorem dX8_here_50 : decode cX8_here 50 = .ok (.getfield 20, 3) := by decide +kernel
theorem dX8_here_53 : decode cX8_here 53 = .ok (.aload_n 0, 1) := by decide +kernel
theorem dX8_here_54 : decode cX8_here 54 = .ok (.getfield 168, 3) := by decide +kernel
theorem dX8_here_57 : decode cX8_here 57 = .ok (.iaload, 1) := by decide +kernel
theorem dX8_here_58 : decode cX8_here 58 = .ok (.goto 4, 3) := by decide +kernel
theorem dX8_here_61 : decode cX8_here 61 = .ok (.iconst (-1), 1) := by decide +kernel
theorem dX8_here_62 : decode cX8_here 62 = .ok (.ireturn, 1) := by decide +kernel
set_option maxRecDepth 20000 in
theorem ggX8_run_X8_here : GoodIn wsX8_run wsX8_here := goodIn_r _ [8, 1, 2, 3, 12, 13, 14, 15, 16, 17, 18, 19, 20, 21, 22, 23, 24, 25, 26, 27, 28, 29] (by decide +kernel) (by decide +kernel)
set_option maxRecDepth 20000 in
theorem gX8_run_X8_here : GoodIn wsX8_run (wsV RX8 171 RX8 yX8_here wsX8_here) := goodIn_app (goodIn_of _ (by decide +kernel)) ggX8_run_X8_here
set_option maxRecDepth 20000 in
theorem ggX8_run_X8_in : GoodIn wsX8_run wsX8_in := goodIn_r _ [11] (by decide +kernel) (by decide +kernel)
set_option maxRecDepth 20000 in
theorem gX8_run_X8_in : GoodIn wsX8_run (va_wsS RX8 42 yX8_in wsX8_in) := goodIn_app (goodIn_of _ (by decide +kernel)) ggX8_run_X8_in
theorem dX8_run_0 : decode cX8_run 0 = .ok (.iconst 0, 1) := by decide +kernel
theorem dX8_run_1 : decode cX8_run 1 = .ok (.istore_n 3, 1) := by decide +kernel
theorem dX8_run_2 : decode cX8_run 2 = .ok (.aload_n 0, 1) := by decide +kernel
theorem dX8_run_3 : decode cX8_run 3 = .ok (.invokevirtual 171, 3) := by decide +kernel
theorem dX8_run_6 : decode cX8_run 6 = .ok (.pop, 1) := by decide +kernel
theorem dX8_run_7 : decode cX8_run 7 = .ok (.aload_n 0, 1) := by decide +kernel
theorem dX8_run_8 : decode cX8_run 8 = .ok (.getfield 168, 3) := by decide +kernel
theorem dX8_run_11 : decode cX8_run 11 = .ok (.iload_n 3, 1) := by decide +kernel
theorem dX8_run_12 : decode cX8_run 12 = .ok (.iadd, 1) := by decide +kernel
theorem dX8_run_13 : decode cX8_run 13 = .ok (.aload_n 0, 1) := by decide +kernel
theorem dX8_run_14 : decode cX8_run 14 = .ok (.getfield 56, 3) := by decide +kernel
theorem dX8_run_17 : decode cX8_run 17 = .ok (.if_icmp .ge 28, 3) := by decide +kernel
theorem dX8_run_20 : decode cX8_run 20 = .ok (.aload_n 0, 1) := by decide +kernel
theorem dX8_run_21 : decode cX8_run 21 = .ok (.getfield 20, 3) := by decide +kernel
theorem dX8_run_24 : decode cX8_run 24 = .ok (.aload_n 0, 1) := by decide +kernel
theorem dX8_run_25 : decode cX8_run 25 = .ok (.getfield 168, 3) := by decide +kernel
theorem dX8_run_28 : decode cX8_run 28 = .ok (.iload_n 3, 1) := by decide +kernel
theorem dX8_run_29 : decode cX8_run 29 = .ok (.iadd, 1) := by decide +kernel
theorem dX8_run_30 : decode cX8_run 30 = .ok (.iaload, 1) := by decide +kernel
theorem dX8_run_31 : decode cX8_run 31 = .ok (.iload_n 1, 1) := by decide +kernel
theorem dX8_run_32 : decode cX8_run 32 = .ok (.iload_n 2, 1) := by decide +kernel
theorem dX8_run_33 : decode cX8_run 33 = .ok (.invokestatic 42, 3) := by decide +kernel
theorem dX8_run_36 : decode cX8_run 36 = .ok (.ifCond .eq 9, 3) := by decide +kernel
theorem dX8_run_39 : decode cX8_run 39 = .ok (.iinc 3 1, 3) := by decide +kernel
theorem dX8_run_42 : decode cX8_run 42 = .ok (.goto (-35), 3) := by decide +kernel
theorem dX8_run_45 : decode cX8_run 45 = .ok (.iload_n 3, 1) := by decide +kernel
theorem dX8_run_46 : decode cX8_run 46 = .ok (.ireturn, 1) := by decide +kernel
theorem dX8_isName_0 : decode cX8_isName 0 = .ok (.iload 6, 2) := by decide +kernel
theorem dX8_isName_2 : decode cX8_isName 2 = .ok (.bipush 6, 2) := by decide +kernel
theorem dX8_isName_4 : decode cX8_isName 4 = .ok (.if_icmp .ge 7, 3) := by decide +kernel
theorem dX8_isName_7 : decode cX8_isName 7 = .ok (.iconst 1, 1) := by decide +kernel
theorem dX8_isName_8 : decode cX8_isName 8 = .ok (.goto 4, 3) := by decide +kernel
theorem dX8_isName_11 : decode cX8_isName 11 = .ok (.iconst 0, 1) := by decide +kernel
theorem dX8_isName_12 : decode cX8_isName 12 = .ok (.istore 7, 2) := by decide +kernel
theorem dX8_isName_14 : decode cX8_isName 14 = .ok (.iconst 0, 1) := by decide +kernel
theorem dX8_isName_15 : decode cX8_isName 15 = .ok (.istore 8, 2) := by decide +kernel
theorem dX8_isName_17 : decode cX8_isName 17 = .ok (.iload 8, 2) := by decide +kernel
theorem dX8_isName_19 : decode cX8_isName 19 = .ok (.iload 6, 2) := by decide +kernel
theorem dX8_isName_21 : decode cX8_isName 21 = .ok (.if_icmp .ge 78, 3) := by decide +kernel
theorem dX8_isName_24 : decode cX8_isName 24 = .ok (.iload 7, 2) := by decide +kernel
theorem dX8_isName_26 : decode cX8_isName 26 = .ok (.ifCond .eq 73, 3) := by decide +kernel
theorem dX8_isName_29 : decode cX8_isName 29 = .ok (.aload_n 0, 1) := by decide +kernel
theorem dX8_isName_30 : decode cX8_isName 30 = .ok (.getfield 20, 3) := by decide +kernel
theorem dX8_isName_33 : decode cX8_isName 33 = .ok (.aload_n 0, 1) := by decide +kernel
theorem dX8_isName_34 : decode cX8_isName 34 = .ok (.getfield 168, 3) := by decide +kernel
theorem dX8_isName_37 : decode cX8_isName 37 = .ok (.iload 8, 2) := by decide +kernel
theorem dX8_isName_39 : decode cX8_isName 39 = .ok (.iadd, 1) := by decide +kernel
theorem dX8_isName_40 : decode cX8_isName 40 = .ok (.iaload, 1) := by decide +kernel
theorem dX8_isName_41 : decode cX8_isName 41 = .ok (.iload 8, 2) := by decide +kernel
theorem dX8_isName_43 : decode cX8_isName 43 = .ok (.ifCond .ne 7, 3) := by decide +kernel
theorem dX8_isName_46 : decode cX8_isName 46 = .ok (.iload_n 1, 1) := by decide +kernel
theorem dX8_isName_47 : decode cX8_isName 47 = .ok (.goto 36, 3) := by decide +kernel
theorem dX8_isName_50 : decode cX8_isName 50 = .ok (.iload 8, 2) := by decide +kernel
theorem dX8_isName_52 : decode cX8_isName 52 = .ok (.iconst 1, 1) := by decide +kernel
theorem dX8_isName_53 : decode cX8_isName 53 = .ok (.if_icmp .ne 7, 3) := by decide +kernel
theorem dX8_isName_56 : decode cX8_isName 56 = .ok (.iload_n 2, 1) := by decide +kernel
theorem dX8_isName_57 : decode cX8_isName 57 = .ok (.goto 26, 3) := by decide +kernel
theorem dX8_isName_60 : decode cX8_isName 60 = .ok (.iload 8, 2) := by decide +kernel
theorem dX8_isName_62 : decode cX8_isName 62 = .ok (.iconst 2, 1) := by decide +kernel
theorem dX8_isName_63 : decode cX8_isName 63 = .ok (.if_icmp .ne 7, 3) := by decide +kernel
theorem dX8_isName_66 : decode cX8_isName 66 = .ok (.iload_n 3, 1) := by decide +kernel
theorem dX8_isName_67 : decode cX8_isName 67 = .ok (.goto 16, 3) := by decide +kernel
theorem dX8_isName_70 : decode cX8_isName 70 = .ok (.iload 8, 2) := by decide +kernel
theorem dX8_isName_72 : decode cX8_isName 72 = .ok (.iconst 3, 1) := by decide +kernel
theorem dX8_isName_73 : decode cX8_isName 73 = .ok (.if_icmp .ne 8, 3) := by decide +kernel
theorem dX8_isName_76 : decode cX8_isName 76 = .ok (.iload 4, 2) := by decide +kernel
theorem dX8_isName_78 : decode cX8_isName 78 = .ok (.goto 5, 3) := by decide +kernel
theorem dX8_isName_81 : decode cX8_isName 81 = .ok (.iload 5, 2) := by decide +kernel
theorem dX8_isName_83 : decode cX8_isName 83 = .ok (.if_icmp .ne 7, 3) := by decide +kernel
theorem dX8_isName_86 : decode cX8_isName 86 = .ok (.iconst 1, 1) := by decide +kernel
theorem dX8_isName_87 : decode cX8_isName 87 = .ok (.goto 4, 3) := by decide +kernel
theorem dX8_isName_90 : decode cX8_isName 90 = .ok (.iconst 0, 1) := by decide +kernel
theorem dX8_isName_91 : decode cX8_isName 91 = .ok (.istore 7, 2) := by decide +kernel
theorem dX8_isName_93 : decode cX8_isName 93 = .ok (.iinc 8 1, 3) := by decide +kernel
theorem dX8_isName_96 : decode cX8_isName 96 = .ok (.goto (-79), 3) := by decide +kernel
theorem dX8_isName_99 : decode cX8_isName 99 = .ok (.iload 7, 2) := by decide +kernel
theorem dX8_isName_101 : decode cX8_isName 101 = .ok (.ireturn, 1) := by decide +kernel
set_option maxRecDepth 20000 in
theorem ggX8_nameOf_X8_run : GoodIn wsX8_nameOf wsX8_run := goodIn_r _ [7, 2, 8, 9, 10, 11, 12, 6, 13, 14, 15, 16, 21, 22, 23, 24, 25, 26, 27, 28, 29, 30, 31, 32, 33, 34, 35, 36, 37, 38] (by decide +kernel) (by decide +kernel)
set_option maxRecDepth 20000 in
theorem gX8_nameOf_X8_run : GoodIn wsX8_nameOf (wsV RX8 174 RX8 yX8_run wsX8_run) := goodIn_app (goodIn_of _ (by decide +kernel)) ggX8_nameOf_X8_run
set_option maxRecDepth 20000 in
theorem ggX8_nameOf_X8_isName : GoodIn wsX8_nameOf wsX8_isName := goodIn_r _ [20, 9, 2, 21, 22, 23, 24, 25, 26, 27, 28, 29, 30, 31, 32, 33, 34, 35, 36, 37, 38] (by decide +kernel) (by decide +kernel)
set_option maxRecDepth 20000 in
theorem gX8_nameOf_X8_isName : GoodIn wsX8_nameOf (wsV RX8 177 RX8 yX8_isName wsX8_isName) := goodIn_app (goodIn_of _ (by decide +kernel)) ggX8_nameOf_X8_isName
theorem dX8_nameOf_0 : decode cX8_nameOf 0 = .ok (.aload_n 0, 1) := by decide +kernel
theorem dX8_nameOf_1 : decode cX8_nameOf 1 = .ok (.bipush 97, 2) := by decide +kernel
theorem dX8_nameOf_3 : decode cX8_nameOf 3 = .ok (.bipush 122, 2) := by decide +kernel
theorem dX8_nameOf_5 : decode cX8_nameOf 5 = .ok (.invokevirtual 174, 3) := by decide +kernel
theorem dX8_nameOf_8 : decode cX8_nameOf 8 = .ok (.istore_n 1, 1) := by decide +kernel
theorem dX8_nameOf_9 : decode cX8_nameOf 9 = .ok (.iload_n 1, 1) := by decide +kernel
theorem dX8_nameOf_10 : decode cX8_nameOf 10 = .ok (.iconst 3, 1) := by decide +kernel
theorem dX8_nameOf_11 : decode cX8_nameOf 11 = .ok (.if_icmp .ne 23, 3) := by decide +kernel
theorem dX8_nameOf_14 : decode cX8_nameOf 14 = .ok (.aload_n 0, 1) := by decide +kernel
theorem dX8_nameOf_15 : decode cX8_nameOf 15 = .ok (.bipush 97, 2) := by decide +kernel
theorem dX8_nameOf_17 : decode cX8_nameOf 17 = .ok (.bipush 100, 2) := by decide +kernel
theorem dX8_nameOf_19 : decode cX8_nameOf 19 = .ok (.bipush 100, 2) := by decide +kernel
theorem dX8_nameOf_21 : decode cX8_nameOf 21 = .ok (.iconst 0, 1) := by decide +kernel
theorem dX8_nameOf_22 : decode cX8_nameOf 22 = .ok (.iconst 0, 1) := by decide +kernel
theorem dX8_nameOf_23 : decode cX8_nameOf 23 = .ok (.iload_n 1, 1) := by decide +kernel
theorem dX8_nameOf_24 : decode cX8_nameOf 24 = .ok (.invokevirtual 177, 3) := by decide +kernel
theorem dX8_nameOf_27 : decode cX8_nameOf 27 = .ok (.ifCond .eq 7, 3) := by decide +kernel
theorem dX8_nameOf_30 : decode cX8_nameOf 30 = .ok (.iconst 1, 1) := by decide +kernel
theorem dX8_nameOf_31 : decode cX8_nameOf 31 = .ok (.goto 162, 3) := by decide +kernel
theorem dX8_nameOf_34 : decode cX8_nameOf 34 = .ok (.iload_n 1, 1) := by decide +kernel
theorem dX8_nameOf_35 : decode cX8_nameOf 35 = .ok (.iconst 3, 1) := by decide +kernel
theorem dX8_nameOf_36 : decode cX8_nameOf 36 = .ok (.if_icmp .ne 23, 3) := by decide +kernel
theorem dX8_nameOf_39 : decode cX8_nameOf 39 = .ok (.aload_n 0, 1) := by decide +kernel
theorem dX8_nameOf_40 : decode cX8_nameOf 40 = .ok (.bipush 117, 2) := by decide +kernel
theorem dX8_nameOf_42 : decode cX8_nameOf 42 = .ok (.bipush 115, 2) := by decide +kernel
theorem dX8_nameOf_44 : decode cX8_nameOf 44 = .ok (.bipush 101, 2) := by decide +kernel
theorem dX8_nameOf_46 : decode cX8_nameOf 46 = .ok (.iconst 0, 1) := by decide +kernel
theorem dX8_nameOf_47 : decode cX8_nameOf 47 = .ok (.iconst 0, 1) := by decide +kernel
theorem dX8_nameOf_48 : decode cX8_nameOf 48 = .ok (.iload_n 1, 1) := by decide +kernel
theorem dX8_nameOf_49 : decode cX8_nameOf 49 = .ok (.invokevirtual 177, 3) := by decide +kernel
theorem dX8_nameOf_52 : decode cX8_nameOf 52 = .ok (.ifCond .eq 7, 3) := by decide +kernel
theorem dX8_nameOf_55 : decode cX8_nameOf 55 = .ok (.iconst 2, 1) := by decide +kernel
theorem dX8_nameOf_56 : decode cX8_nameOf 56 = .ok (.goto 137, 3) := by decide +kernel
theorem dX8_nameOf_59 : decode cX8_nameOf 59 = .ok (.iload_n 1, 1) := by decide +kernel
theorem dX8_nameOf_60 : decode cX8_nameOf 60 = .ok (.iconst 5, 1) := by decide +kernel
theorem dX8_nameOf_61 : decode cX8_nameOf 61 = .ok (.if_icmp .ne 25, 3) := by decide +kernel
theorem dX8_nameOf_64 : decode cX8_nameOf 64 = .ok (.aload_n 0, 1) := by decide +kernel
theorem dX8_nameOf_65 : decode cX8_nameOf 65 = .ok (.bipush 115, 2) := by decide +kernel
theorem dX8_nameOf_67 : decode cX8_nameOf 67 = .ok (.bipush 99, 2) := by decide +kernel
theorem dX8_nameOf_69 : decode cX8_nameOf 69 = .ok (.bipush 111, 2) := by decide +kernel
theorem dX8_nameOf_71 : decode cX8_nameOf 71 = .ok (.bipush 114, 2) := by decide +kernel
theorem dX8_nameOf_73 : decode cX8_nameOf 73 = .ok (.bipush 101, 2) := by decide +kernel
theorem dX8_nameOf_75 : decode cX8_nameOf 75 = .ok (.iload_n 1, 1) := by decide +kernel
theorem dX8_nameOf_76 : decode cX8_nameOf 76 = .ok (.invokevirtual 177, 3) := by decide +kernel
theorem dX8_nameOf_79 : decode cX8_nameOf 79 = .ok (.ifCond .eq 7, 3) := by decide +kernel
theorem dX8_nameOf_82 : decode cX8_nameOf 82 = .ok (.iconst 3, 1) := by decide +kernel
theorem dX8_nameOf_83 : decode cX8_nameOf 83 = .ok (.goto 110, 3) := by decide +kernel
theorem dX8_nameOf_86 : decode cX8_nameOf 86 = .ok (.iload_n 1, 1) := by decide +kernel
theorem dX8_nameOf_87 : decode cX8_nameOf 87 = .ok (.iconst 4, 1) := by decide +kernel
theorem dX8_nameOf_88 : decode cX8_nameOf 88 = .ok (.if_icmp .ne 24, 3) := by decide +kernel
theorem dX8_nameOf_91 : decode cX8_nameOf 91 = .ok (.aload_n 0, 1) := by decide +kernel
theorem dX8_nameOf_92 : decode cX8_nameOf 92 = .ok (.bipush 100, 2) := by decide +kernel
theorem dX8_nameOf_94 : decode cX8_nameOf 94 = .ok (.bipush 114, 2) := by decide +kernel
theorem dX8_nameOf_96 : decode cX8_nameOf 96 = .ok (.bipush 111, 2) := by decide +kernel
theorem dX8_nameOf_98 : decode cX8_nameOf 98 = .ok (.bipush 112, 2) := by decide +kernel
theorem dX8_nameOf_100 : decode cX8_nameOf 100 = .ok (.iconst 0, 1) := by decide +kernel
theorem dX8_nameOf_101 : decode cX8_nameOf 101 = .ok (.iload_n 1, 1) := by decide +kernel
theorem dX8_nameOf_102 : decode cX8_nameOf 102 = .ok (.invokevirtual 177, 3) := by decide +kernel
theorem dX8_nameOf_105 : decode cX8_nameOf 105 = .ok (.ifCond .eq 7, 3) := by decide +kernel
theorem dX8_nameOf_108 : decode cX8_nameOf 108 = .ok (.iconst 4, 1) := by decide +kernel
theorem dX8_nameOf_109 : decode cX8_nameOf 109 = .ok (.goto 84, 3) := by decide +kernel
theorem dX8_nameOf_112 : decode cX8_nameOf 112 = .ok (.iload_n 1, 1) := by decide +kernel
theorem dX8_nameOf_113 : decode cX8_nameOf 113 = .ok (.iconst 4, 1) := by decide +kernel
theorem dX8_nameOf_114 : decode cX8_nameOf 114 = .ok (.if_icmp .ne 24, 3) := by decide +kernel
theorem dX8_nameOf_117 : decode cX8_nameOf 117 = .ok (.aload_n 0, 1) := by decide +kernel
theorem dX8_nameOf_118 : decode cX8_nameOf 118 = .ok (.bipush 114, 2) := by decide +kernel
theorem dX8_nameOf_120 : decode cX8_nameOf 120 = .ok (.bipush 97, 2) := by decide +kernel
theorem dX8_nameOf_122 : decode cX8_nameOf 122 = .ok (.bipush 110, 2) := by decide +kernel
theorem dX8_nameOf_124 : decode cX8_nameOf 124 = .ok (.bipush 107, 2) := by decide +kernel
theorem dX8_nameOf_126 : decode cX8_nameOf 126 = .ok (.iconst 0, 1) := by decide +kernel
theorem dX8_nameOf_127 : decode cX8_nameOf 127 = .ok (.iload_n 1, 1) := by decide +kernel
theorem dX8_nameOf_128 : decode cX8_nameOf 128 = .ok (.invokevirtual 177, 3) := by decide +kernel
theorem dX8_nameOf_131 : decode cX8_nameOf 131 = .ok (.ifCond .eq 7, 3) := by decide +kernel
theorem dX8_nameOf_134 : decode cX8_nameOf 134 = .ok (.iconst 5, 1) := by decide +kernel
theorem dX8_nameOf_135 : decode cX8_nameOf 135 = .ok (.goto 58, 3) := by decide +kernel
theorem dX8_nameOf_138 : decode cX8_nameOf 138 = .ok (.iload_n 1, 1) := by decide +kernel
theorem dX8_nameOf_139 : decode cX8_nameOf 139 = .ok (.iconst 4, 1) := by decide +kernel
theorem dX8_nameOf_140 : decode cX8_nameOf 140 = .ok (.if_icmp .ne 25, 3) := by decide +kernel
theorem dX8_nameOf_143 : decode cX8_nameOf 143 = .ok (.aload_n 0, 1) := by decide +kernel
theorem dX8_nameOf_144 : decode cX8_nameOf 144 = .ok (.bipush 115, 2) := by decide +kernel
theorem dX8_nameOf_146 : decode cX8_nameOf 146 = .ok (.bipush 108, 2) := by decide +kernel
theorem dX8_nameOf_148 : decode cX8_nameOf 148 = .ok (.bipush 105, 2) := by decide +kernel
theorem dX8_nameOf_150 : decode cX8_nameOf 150 = .ok (.bipush 112, 2) := by decide +kernel
theorem dX8_nameOf_152 : decode cX8_nameOf 152 = .ok (.iconst 0, 1) := by decide +kernel
theorem dX8_nameOf_153 : decode cX8_nameOf 153 = .ok (.iload_n 1, 1) := by decide +kernel
theorem dX8_nameOf_154 : decode cX8_nameOf 154 = .ok (.invokevirtual 177, 3) := by decide +kernel
theorem dX8_nameOf_157 : decode cX8_nameOf 157 = .ok (.ifCond .eq 8, 3) := by decide +kernel
theorem dX8_nameOf_160 : decode cX8_nameOf 160 = .ok (.bipush 6, 2) := by decide +kernel
theorem dX8_nameOf_162 : decode cX8_nameOf 162 = .ok (.goto 31, 3) := by decide +kernel
theorem dX8_nameOf_165 : decode cX8_nameOf 165 = .ok (.iload_n 1, 1) := by decide +kernel
theorem dX8_nameOf_166 : decode cX8_nameOf 166 = .ok (.iconst 4, 1) := by decide +kernel
theorem dX8_nameOf_167 : decode cX8_nameOf 167 = .ok (.if_icmp .ne 25, 3) := by decide +kernel
theorem dX8_nameOf_170 : decode cX8_nameOf 170 = .ok (.aload_n 0, 1) := by decide +kernel
theorem dX8_nameOf_171 : decode cX8_nameOf 171 = .ok (.bipush 102, 2) := by decide +kernel
theorem dX8_nameOf_173 : decode cX8_nameOf 173 = .ok (.bipush 97, 2) := by decide +kernel
theorem dX8_nameOf_175 : decode cX8_nameOf 175 = .ok (.bipush 100, 2) := by decide +kernel
theorem dX8_nameOf_177 : decode cX8_nameOf 177 = .ok (.bipush 101, 2) := by decide +kernel
theorem dX8_nameOf_179 : decode cX8_nameOf 179 = .ok (.iconst 0, 1) := by decide +kernel
theorem dX8_nameOf_180 : decode cX8_nameOf 180 = .ok (.iload_n 1, 1) := by decide +kernel
theorem dX8_nameOf_181 : decode cX8_nameOf 181 = .ok (.invokevirtual 177, 3) := by decide +kernel
theorem dX8_nameOf_184 : decode cX8_nameOf 184 = .ok (.ifCond .eq 8, 3) := by decide +kernel
theorem dX8_nameOf_187 : decode cX8_nameOf 187 = .ok (.bipush 7, 2) := by decide +kernel
theorem dX8_nameOf_189 : decode cX8_nameOf 189 = .ok (.goto 4, 3) := by decide +kernel
theorem dX8_nameOf_192 : decode cX8_nameOf 192 = .ok (.iconst 0, 1) := by decide +kernel
theorem dX8_nameOf_193 : decode cX8_nameOf 193 = .ok (.istore_n 2, 1) := by decide +kernel
theorem dX8_nameOf_194 : decode cX8_nameOf 194 = .ok (.aload_n 0, 1) := by decide +kernel
theorem dX8_nameOf_195 : decode cX8_nameOf 195 = .ok (.iload_n 2, 1) := by decide +kernel
theorem dX8_nameOf_196 : decode cX8_nameOf 196 = .ok (.ifCond .ne 7, 3) := by decide +kernel
theorem dX8_nameOf_199 : decode cX8_nameOf 199 = .ok (.iconst 1, 1) := by decide +kernel
theorem dX8_nameOf_200 : decode cX8_nameOf 200 = .ok (.goto 4, 3) := by decide +kernel
theorem dX8_nameOf_203 : decode cX8_nameOf 203 = .ok (.iconst 0, 1) := by decide +kernel
theorem dX8_nameOf_204 : decode cX8_nameOf 204 = .ok (.putfield 181, 3) := by decide +kernel
theorem dX8_nameOf_207 : decode cX8_nameOf 207 = .ok (.aload_n 0, 1) := by decide +kernel
theorem dX8_nameOf_208 : decode cX8_nameOf 208 = .ok (.dup, 1) := by decide +kernel
theorem dX8_nameOf_209 : decode cX8_nameOf 209 = .ok (.getfield 168, 3) := by decide +kernel
theorem dX8_nameOf_212 : decode cX8_nameOf 212 = .ok (.aload_n 0, 1) := by decide +kernel
theorem dX8_nameOf_213 : decode cX8_nameOf 213 = .ok (.getfield 181, 3) := by decide +kernel
theorem dX8_nameOf_216 : decode cX8_nameOf 216 = .ok (.ifCond .eq 7, 3) := by decide +kernel
theorem dX8_nameOf_219 : decode cX8_nameOf 219 = .ok (.iconst 0, 1) := by decide +kernel
theorem dX8_nameOf_220 : decode cX8_nameOf 220 = .ok (.goto 4, 3) := by decide +kernel
theorem dX8_nameOf_223 : decode cX8_nameOf 223 = .ok (.iload_n 1, 1) := by decide +kernel
theorem dX8_nameOf_224 : decode cX8_nameOf 224 = .ok (.iadd, 1) := by decide +kernel
theorem dX8_nameOf_225 : decode cX8_nameOf 225 = .ok (.putfield 168, 3) := by decide +kernel
theorem dX8_nameOf_228 : decode cX8_nameOf 228 = .ok (.iload_n 2, 1) := by decide +kernel
theorem dX8_nameOf_229 : decode cX8_nameOf 229 = .ok (.ireturn, 1) := by decide +kernel
set_option maxRecDepth 20000 in
theorem ggX8_readsWord_X8_run : GoodIn wsX8_readsWord wsX8_run := goodIn_r _ [10, 3, 11, 2, 12, 13, 14, 9, 15, 16, 17, 18, 19, 20, 21, 22, 23, 24, 25, 26, 27, 28, 29, 30, 31, 32, 33, 34, 35, 36] (by decide +kernel) (by decide +kernel)
set_option maxRecDepth 20000 in
theorem gX8_readsWord_X8_run : GoodIn wsX8_readsWord (wsV RX8 174 RX8 yX8_run wsX8_run) := goodIn_app (goodIn_of _ (by decide +kernel)) ggX8_readsWord_X8_run
set_option maxRecDepth 20000 in
theorem ggX8_readsWord_X8_in : GoodIn wsX8_readsWord wsX8_in := goodIn_r _ [18] (by decide +kernel) (by decide +kernel)
set_option maxRecDepth 20000 in
theorem gX8_readsWord_X8_in : GoodIn wsX8_readsWord (va_wsS RX8 42 yX8_in wsX8_in) := goodIn_app (goodIn_of _ (by decide +kernel)) ggX8_readsWord_X8_in
theorem dX8_readsWord_0 : decode cX8_readsWord 0 = .ok (.aload_n 0, 1) := by decide +kernel
theorem dX8_readsWord_1 : decode cX8_readsWord 1 = .ok (.getfield 181, 3) := by decide +kernel
theorem dX8_readsWord_4 : decode cX8_readsWord 4 = .ok (.ifCond .eq 4, 3) := by decide +kernel
theorem dX8_readsWord_7 : decode cX8_readsWord 7 = .ok (.return_, 1) := by decide +kernel
theorem dX8_readsWord_8 : decode cX8_readsWord 8 = .ok (.aload_n 0, 1) := by decide +kernel
theorem dX8_readsWord_9 : decode cX8_readsWord 9 = .ok (.bipush 97, 2) := by decide +kernel
theorem dX8_readsWord_11 : decode cX8_readsWord 11 = .ok (.bipush 122, 2) := by decide +kernel
theorem dX8_readsWord_13 : decode cX8_readsWord 13 = .ok (.invokevirtual 174, 3) := by decide +kernel
theorem dX8_readsWord_16 : decode cX8_readsWord 16 = .ok (.istore_n 1, 1) := by decide +kernel
theorem dX8_readsWord_17 : decode cX8_readsWord 17 = .ok (.aload_n 0, 1) := by decide +kernel
theorem dX8_readsWord_18 : decode cX8_readsWord 18 = .ok (.iload_n 1, 1) := by decide +kernel
theorem dX8_readsWord_19 : decode cX8_readsWord 19 = .ok (.iconst 1, 1) := by decide +kernel
theorem dX8_readsWord_20 : decode cX8_readsWord 20 = .ok (.bipush 8, 2) := by decide +kernel
theorem dX8_readsWord_22 : decode cX8_readsWord 22 = .ok (.invokestatic 42, 3) := by decide +kernel
theorem dX8_readsWord_25 : decode cX8_readsWord 25 = .ok (.ifCond .ne 7, 3) := by decide +kernel
theorem dX8_readsWord_28 : decode cX8_readsWord 28 = .ok (.iconst 1, 1) := by decide +kernel
theorem dX8_readsWord_29 : decode cX8_readsWord 29 = .ok (.goto 4, 3) := by decide +kernel
theorem dX8_readsWord_32 : decode cX8_readsWord 32 = .ok (.iconst 0, 1) := by decide +kernel
theorem dX8_readsWord_33 : decode cX8_readsWord 33 = .ok (.putfield 181, 3) := by decide +kernel
theorem dX8_readsWord_36 : decode cX8_readsWord 36 = .ok (.iconst 0, 1) := by decide +kernel
theorem dX8_readsWord_37 : decode cX8_readsWord 37 = .ok (.istore_n 2, 1) := by decide +kernel
theorem dX8_readsWord_38 : decode cX8_readsWord 38 = .ok (.iload_n 2, 1) := by decide +kernel
theorem dX8_readsWord_39 : decode cX8_readsWord 39 = .ok (.iload_n 1, 1) := by decide +kernel
theorem dX8_readsWord_40 : decode cX8_readsWord 40 = .ok (.if_icmp .ge 46, 3) := by decide +kernel
theorem dX8_readsWord_43 : decode cX8_readsWord 43 = .ok (.aload_n 0, 1) := by decide +kernel
theorem dX8_readsWord_44 : decode cX8_readsWord 44 = .ok (.getfield 181, 3) := by decide +kernel
theorem dX8_readsWord_47 : decode cX8_readsWord 47 = .ok (.ifCond .ne 39, 3) := by decide +kernel
theorem dX8_readsWord_50 : decode cX8_readsWord 50 = .ok (.aload_n 0, 1) := by decide +kernel
theorem dX8_readsWord_51 : decode cX8_readsWord 51 = .ok (.aload_n 0, 1) := by decide +kernel
theorem dX8_readsWord_52 : decode cX8_readsWord 52 = .ok (.getfield 20, 3) := by decide +kernel
theorem dX8_readsWord_55 : decode cX8_readsWord 55 = .ok (.aload_n 0, 1) := by decide +kernel
theorem dX8_readsWord_56 : decode cX8_readsWord 56 = .ok (.getfield 168, 3) := by decide +kernel
theorem dX8_readsWord_59 : decode cX8_readsWord 59 = .ok (.iload_n 2, 1) := by decide +kernel
theorem dX8_readsWord_60 : decode cX8_readsWord 60 = .ok (.iadd, 1) := by decide +kernel
theorem dX8_readsWord_61 : decode cX8_readsWord 61 = .ok (.iaload, 1) := by decide +kernel
theorem dX8_readsWord_62 : decode cX8_readsWord 62 = .ok (.bipush 97, 2) := by decide +kernel
theorem dX8_readsWord_64 : decode cX8_readsWord 64 = .ok (.bipush 104, 2) := by decide +kernel
theorem dX8_readsWord_66 : decode cX8_readsWord 66 = .ok (.invokestatic 42, 3) := by decide +kernel
theorem dX8_readsWord_69 : decode cX8_readsWord 69 = .ok (.ifCond .ne 7, 3) := by decide +kernel
theorem dX8_readsWord_72 : decode cX8_readsWord 72 = .ok (.iconst 1, 1) := by decide +kernel
theorem dX8_readsWord_73 : decode cX8_readsWord 73 = .ok (.goto 4, 3) := by decide +kernel
theorem dX8_readsWord_76 : decode cX8_readsWord 76 = .ok (.iconst 0, 1) := by decide +kernel
theorem dX8_readsWord_77 : decode cX8_readsWord 77 = .ok (.putfield 181, 3) := by decide +kernel
theorem dX8_readsWord_80 : decode cX8_readsWord 80 = .ok (.iinc 2 1, 3) := by decide +kernel
theorem dX8_readsWord_83 : decode cX8_readsWord 83 = .ok (.goto (-45), 3) := by decide +kernel
theorem dX8_readsWord_86 : decode cX8_readsWord 86 = .ok (.aload_n 0, 1) := by decide +kernel
theorem dX8_readsWord_87 : decode cX8_readsWord 87 = .ok (.getfield 181, 3) := by decide +kernel
theorem dX8_readsWord_90 : decode cX8_readsWord 90 = .ok (.ifCond .ne 51, 3) := by decide +kernel
theorem dX8_readsWord_93 : decode cX8_readsWord 93 = .ok (.iconst 0, 1) := by decide +kernel
theorem dX8_readsWord_94 : decode cX8_readsWord 94 = .ok (.istore_n 2, 1) := by decide +kernel
theorem dX8_readsWord_95 : decode cX8_readsWord 95 = .ok (.iload_n 2, 1) := by decide +kernel
theorem dX8_readsWord_96 : decode cX8_readsWord 96 = .ok (.iload_n 1, 1) := by decide +kernel
theorem dX8_readsWord_97 : decode cX8_readsWord 97 = .ok (.if_icmp .ge 29, 3) := by decide +kernel
theorem dX8_readsWord_100 : decode cX8_readsWord 100 = .ok (.aload_n 0, 1) := by decide +kernel
theorem dX8_readsWord_101 : decode cX8_readsWord 101 = .ok (.getfield 32, 3) := by decide +kernel
theorem dX8_readsWord_104 : decode cX8_readsWord 104 = .ok (.iload_n 2, 1) := by decide +kernel
theorem dX8_readsWord_105 : decode cX8_readsWord 105 = .ok (.aload_n 0, 1) := by decide +kernel
theorem dX8_readsWord_106 : decode cX8_readsWord 106 = .ok (.getfield 20, 3) := by decide +kernel
theorem dX8_readsWord_109 : decode cX8_readsWord 109 = .ok (.aload_n 0, 1) := by decide +kernel
theorem dX8_readsWord_110 : decode cX8_readsWord 110 = .ok (.getfield 168, 3) := by decide +kernel
theorem dX8_readsWord_113 : decode cX8_readsWord 113 = .ok (.iload_n 2, 1) := by decide +kernel
theorem dX8_readsWord_114 : decode cX8_readsWord 114 = .ok (.iadd, 1) := by decide +kernel
theorem dX8_readsWord_115 : decode cX8_readsWord 115 = .ok (.iaload, 1) := by decide +kernel
theorem dX8_readsWord_116 : decode cX8_readsWord 116 = .ok (.bipush 97, 2) := by decide +kernel
theorem dX8_readsWord_118 : decode cX8_readsWord 118 = .ok (.isub, 1) := by decide +kernel
theorem dX8_readsWord_119 : decode cX8_readsWord 119 = .ok (.iastore, 1) := by decide +kernel
