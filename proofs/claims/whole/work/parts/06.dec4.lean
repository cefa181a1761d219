set_option maxRecDepth 20000 in
theorem gX8_types_X8_bring : GoodIn wsX8_types (va_wsS RX8 72 yX8_bring wsX8_bring) := goodIn_app (goodIn_of _ (by decide +kernel)) ggX8_types_X8_bring
theorem dX8_types_0 : decode cX8_types 0 = .ok (.aload_n 0, 1) := by decide +kernel
theorem dX8_types_1 : decode cX8_types 1 = .ok (.iload_n 1, 1) := by decide +kernel
theorem dX8_types_2 : decode cX8_types 2 = .ok (.invokevirtual 68, 3) := by decide +kernel
theorem dX8_types_5 : decode cX8_types 5 = .ok (.ifCond .eq 22, 3) := by decide +kernel
theorem dX8_types_8 : decode cX8_types 8 = .ok (.iload_n 2, 1) := by decide +kernel
theorem dX8_types_9 : decode cX8_types 9 = .ok (.iconst 0, 1) := by decide +kernel
theorem dX8_types_10 : decode cX8_types 10 = .ok (.aload_n 0, 1) := by decide +kernel
theorem dX8_types_11 : decode cX8_types 11 = .ok (.getfield 7, 3) := by decide +kernel
theorem dX8_types_14 : decode cX8_types 14 = .ok (.bipush 14, 2) := by decide +kernel
theorem dX8_types_16 : decode cX8_types 16 = .ok (.iload_n 1, 1) := by decide +kernel
theorem dX8_types_17 : decode cX8_types 17 = .ok (.imul, 1) := by decide +kernel
theorem dX8_types_18 : decode cX8_types 18 = .ok (.iconst 3, 1) := by decide +kernel
theorem dX8_types_19 : decode cX8_types 19 = .ok (.iadd, 1) := by decide +kernel
theorem dX8_types_20 : decode cX8_types 20 = .ok (.iaload, 1) := by decide +kernel
theorem dX8_types_21 : decode cX8_types 21 = .ok (.invokestatic 42, 3) := by decide +kernel
theorem dX8_types_24 : decode cX8_types 24 = .ok (.ifCond .ne 8, 3) := by decide +kernel
theorem dX8_types_27 : decode cX8_types 27 = .ok (.aload_n 0, 1) := by decide +kernel
theorem dX8_types_28 : decode cX8_types 28 = .ok (.invokevirtual 59, 3) := by decide +kernel
theorem dX8_types_31 : decode cX8_types 31 = .ok (.ireturn, 1) := by decide +kernel
theorem dX8_types_32 : decode cX8_types 32 = .ok (.aload_n 0, 1) := by decide +kernel
theorem dX8_types_33 : decode cX8_types 33 = .ok (.getfield 7, 3) := by decide +kernel
theorem dX8_types_36 : decode cX8_types 36 = .ok (.bipush 14, 2) := by decide +kernel
theorem dX8_types_38 : decode cX8_types 38 = .ok (.iload_n 1, 1) := by decide +kernel
theorem dX8_types_39 : decode cX8_types 39 = .ok (.imul, 1) := by decide +kernel
theorem dX8_types_40 : decode cX8_types 40 = .ok (.bipush 6, 2) := by decide +kernel
theorem dX8_types_42 : decode cX8_types 42 = .ok (.iadd, 1) := by decide +kernel
theorem dX8_types_43 : decode cX8_types 43 = .ok (.aload_n 0, 1) := by decide +kernel
theorem dX8_types_44 : decode cX8_types 44 = .ok (.getfield 17, 3) := by decide +kernel
theorem dX8_types_47 : decode cX8_types 47 = .ok (.iconst 0, 1) := by decide +kernel
theorem dX8_types_48 : decode cX8_types 48 = .ok (.iload_n 2, 1) := by decide +kernel
theorem dX8_types_49 : decode cX8_types 49 = .ok (.invokestatic 72, 3) := by decide +kernel
theorem dX8_types_52 : decode cX8_types 52 = .ok (.aload_n 0, 1) := by decide +kernel
theorem dX8_types_53 : decode cX8_types 53 = .ok (.iload_n 2, 1) := by decide +kernel
theorem dX8_types_54 : decode cX8_types 54 = .ok (.putfield 53, 3) := by decide +kernel
theorem dX8_types_57 : decode cX8_types 57 = .ok (.iload_n 2, 1) := by decide +kernel
theorem dX8_types_58 : decode cX8_types 58 = .ok (.ireturn, 1) := by decide +kernel
theorem dX8_clear_0 : decode cX8_clear 0 = .ok (.aload_n 0, 1) := by decide +kernel
theorem dX8_clear_1 : decode cX8_clear 1 = .ok (.getfield 53, 3) := by decide +kernel
theorem dX8_clear_4 : decode cX8_clear 4 = .ok (.istore_n 1, 1) := by decide +kernel
theorem dX8_clear_5 : decode cX8_clear 5 = .ok (.aload_n 0, 1) := by decide +kernel
theorem dX8_clear_6 : decode cX8_clear 6 = .ok (.iconst 0, 1) := by decide +kernel
theorem dX8_clear_7 : decode cX8_clear 7 = .ok (.putfield 53, 3) := by decide +kernel
theorem dX8_clear_10 : decode cX8_clear 10 = .ok (.iload_n 1, 1) := by decide +kernel
theorem dX8_clear_11 : decode cX8_clear 11 = .ok (.ireturn, 1) := by decide +kernel
theorem dX8_many_0 : decode cX8_many 0 = .ok (.iconst 0, 1) := by decide +kernel
theorem dX8_many_1 : decode cX8_many 1 = .ok (.istore_n 1, 1) := by decide +kernel
theorem dX8_many_2 : decode cX8_many 2 = .ok (.iconst 0, 1) := by decide +kernel
theorem dX8_many_3 : decode cX8_many 3 = .ok (.istore_n 2, 1) := by decide +kernel
theorem dX8_many_4 : decode cX8_many 4 = .ok (.iload_n 2, 1) := by decide +kernel
theorem dX8_many_5 : decode cX8_many 5 = .ok (.aload_n 0, 1) := by decide +kernel
theorem dX8_many_6 : decode cX8_many 6 = .ok (.getfield 7, 3) := by decide +kernel
theorem dX8_many_9 : decode cX8_many 9 = .ok (.sipush 2800, 3) := by decide +kernel
theorem dX8_many_12 : decode cX8_many 12 = .ok (.iaload, 1) := by decide +kernel
theorem dX8_many_13 : decode cX8_many 13 = .ok (.if_icmp .ge 21, 3) := by decide +kernel
theorem dX8_many_16 : decode cX8_many 16 = .ok (.iload_n 1, 1) := by decide +kernel
theorem dX8_many_17 : decode cX8_many 17 = .ok (.aload_n 0, 1) := by decide +kernel
theorem dX8_many_18 : decode cX8_many 18 = .ok (.getfield 7, 3) := by decide +kernel
theorem dX8_many_21 : decode cX8_many 21 = .ok (.bipush 14, 2) := by decide +kernel
theorem dX8_many_23 : decode cX8_many 23 = .ok (.iload_n 2, 1) := by decide +kernel
theorem dX8_many_24 : decode cX8_many 24 = .ok (.imul, 1) := by decide +kernel
theorem dX8_many_25 : decode cX8_many 25 = .ok (.iaload, 1) := by decide +kernel
theorem dX8_many_26 : decode cX8_many 26 = .ok (.iadd, 1) := by decide +kernel
theorem dX8_many_27 : decode cX8_many 27 = .ok (.istore_n 1, 1) := by decide +kernel
theorem dX8_many_28 : decode cX8_many 28 = .ok (.iinc 2 1, 3) := by decide +kernel
theorem dX8_many_31 : decode cX8_many 31 = .ok (.goto (-27), 3) := by decide +kernel
theorem dX8_many_34 : decode cX8_many 34 = .ok (.iload_n 1, 1) := by decide +kernel
theorem dX8_many_35 : decode cX8_many 35 = .ok (.ireturn, 1) := by decide +kernel
theorem dX8_foundBy_0 : decode cX8_foundBy 0 = .ok (.iconst 0, 1) := by decide +kernel
theorem dX8_foundBy_1 : decode cX8_foundBy 1 = .ok (.istore_n 3, 1) := by decide +kernel
theorem dX8_foundBy_2 : decode cX8_foundBy 2 = .ok (.iload_n 3, 1) := by decide +kernel
theorem dX8_foundBy_3 : decode cX8_foundBy 3 = .ok (.aload_n 0, 1) := by decide +kernel
theorem dX8_foundBy_4 : decode cX8_foundBy 4 = .ok (.getfield 7, 3) := by decide +kernel
theorem dX8_foundBy_7 : decode cX8_foundBy 7 = .ok (.sipush 2800, 3) := by decide +kernel
theorem dX8_foundBy_10 : decode cX8_foundBy 10 = .ok (.iaload, 1) := by decide +kernel
theorem dX8_foundBy_11 : decode cX8_foundBy 11 = .ok (.if_icmp .ge 100, 3) := by decide +kernel
theorem dX8_foundBy_14 : decode cX8_foundBy 14 = .ok (.aload_n 0, 1) := by decide +kernel
theorem dX8_foundBy_15 : decode cX8_foundBy 15 = .ok (.getfield 7, 3) := by decide +kernel
theorem dX8_foundBy_18 : decode cX8_foundBy 18 = .ok (.bipush 14, 2) := by decide +kernel
theorem dX8_foundBy_20 : decode cX8_foundBy 20 = .ok (.iload_n 3, 1) := by decide +kernel
theorem dX8_foundBy_21 : decode cX8_foundBy 21 = .ok (.imul, 1) := by decide +kernel
theorem dX8_foundBy_22 : decode cX8_foundBy 22 = .ok (.iaload, 1) := by decide +kernel
theorem dX8_foundBy_23 : decode cX8_foundBy 23 = .ok (.iconst 1, 1) := by decide +kernel
theorem dX8_foundBy_24 : decode cX8_foundBy 24 = .ok (.if_icmp .ne 22, 3) := by decide +kernel
theorem dX8_foundBy_27 : decode cX8_foundBy 27 = .ok (.aload_n 0, 1) := by decide +kernel
theorem dX8_foundBy_28 : decode cX8_foundBy 28 = .ok (.getfield 7, 3) := by decide +kernel
theorem dX8_foundBy_31 : decode cX8_foundBy 31 = .ok (.bipush 14, 2) := by decide +kernel
theorem dX8_foundBy_33 : decode cX8_foundBy 33 = .ok (.iload_n 3, 1) := by decide +kernel
theorem dX8_foundBy_34 : decode cX8_foundBy 34 = .ok (.imul, 1) := by decide +kernel
theorem dX8_foundBy_35 : decode cX8_foundBy 35 = .ok (.iconst 3, 1) := by decide +kernel
theorem dX8_foundBy_36 : decode cX8_foundBy 36 = .ok (.iadd, 1) := by decide +kernel
theorem dX8_foundBy_37 : decode cX8_foundBy 37 = .ok (.iaload, 1) := by decide +kernel
theorem dX8_foundBy_38 : decode cX8_foundBy 38 = .ok (.iload_n 2, 1) := by decide +kernel
theorem dX8_foundBy_39 : decode cX8_foundBy 39 = .ok (.if_icmp .ne 7, 3) := by decide +kernel
theorem dX8_foundBy_42 : decode cX8_foundBy 42 = .ok (.iconst 1, 1) := by decide +kernel
theorem dX8_foundBy_43 : decode cX8_foundBy 43 = .ok (.goto 4, 3) := by decide +kernel
theorem dX8_foundBy_46 : decode cX8_foundBy 46 = .ok (.iconst 0, 1) := by decide +kernel
theorem dX8_foundBy_47 : decode cX8_foundBy 47 = .ok (.istore 4, 2) := by decide +kernel
theorem dX8_foundBy_49 : decode cX8_foundBy 49 = .ok (.iconst 0, 1) := by decide +kernel
theorem dX8_foundBy_50 : decode cX8_foundBy 50 = .ok (.istore 5, 2) := by decide +kernel
theorem dX8_foundBy_52 : decode cX8_foundBy 52 = .ok (.iload 5, 2) := by decide +kernel
theorem dX8_foundBy_54 : decode cX8_foundBy 54 = .ok (.iload_n 2, 1) := by decide +kernel
theorem dX8_foundBy_55 : decode cX8_foundBy 55 = .ok (.if_icmp .ge 43, 3) := by decide +kernel
theorem dX8_foundBy_58 : decode cX8_foundBy 58 = .ok (.iload 4, 2) := by decide +kernel
theorem dX8_foundBy_60 : decode cX8_foundBy 60 = .ok (.ifCond .eq 38, 3) := by decide +kernel
theorem dX8_foundBy_63 : decode cX8_foundBy 63 = .ok (.aload_n 0, 1) := by decide +kernel
theorem dX8_foundBy_64 : decode cX8_foundBy 64 = .ok (.getfield 7, 3) := by decide +kernel
theorem dX8_foundBy_67 : decode cX8_foundBy 67 = .ok (.bipush 14, 2) := by decide +kernel
theorem dX8_foundBy_69 : decode cX8_foundBy 69 = .ok (.iload_n 3, 1) := by decide +kernel
theorem dX8_foundBy_70 : decode cX8_foundBy 70 = .ok (.imul, 1) := by decide +kernel
theorem dX8_foundBy_71 : decode cX8_foundBy 71 = .ok (.bipush 6, 2) := by decide +kernel
theorem dX8_foundBy_73 : decode cX8_foundBy 73 = .ok (.iadd, 1) := by decide +kernel
theorem dX8_foundBy_74 : decode cX8_foundBy 74 = .ok (.iload 5, 2) := by decide +kernel
theorem dX8_foundBy_76 : decode cX8_foundBy 76 = .ok (.iadd, 1) := by decide +kernel
theorem dX8_foundBy_77 : decode cX8_foundBy 77 = .ok (.iaload, 1) := by decide +kernel
theorem dX8_foundBy_78 : decode cX8_foundBy 78 = .ok (.aload_n 1, 1) := by decide +kernel
theorem dX8_foundBy_79 : decode cX8_foundBy 79 = .ok (.iload 5, 2) := by decide +kernel
theorem dX8_foundBy_81 : decode cX8_foundBy 81 = .ok (.iaload, 1) := by decide +kernel
theorem dX8_foundBy_82 : decode cX8_foundBy 82 = .ok (.if_icmp .ne 7, 3) := by decide +kernel
theorem dX8_foundBy_85 : decode cX8_foundBy 85 = .ok (.iconst 1, 1) := by decide +kernel
theorem dX8_foundBy_86 : decode cX8_foundBy 86 = .ok (.goto 4, 3) := by decide +kernel
theorem dX8_foundBy_89 : decode cX8_foundBy 89 = .ok (.iconst 0, 1) := by decide +kernel
theorem dX8_foundBy_90 : decode cX8_foundBy 90 = .ok (.istore 4, 2) := by decide +kernel
theorem dX8_foundBy_92 : decode cX8_foundBy 92 = .ok (.iinc 5 1, 3) := by decide +kernel
theorem dX8_foundBy_95 : decode cX8_foundBy 95 = .ok (.goto (-43), 3) := by decide +kernel
theorem dX8_foundBy_98 : decode cX8_foundBy 98 = .ok (.iload 4, 2) := by decide +kernel
theorem dX8_foundBy_100 : decode cX8_foundBy 100 = .ok (.ifCond .eq 5, 3) := by decide +kernel
theorem dX8_foundBy_103 : decode cX8_foundBy 103 = .ok (.iload_n 3, 1) := by decide +kernel
theorem dX8_foundBy_104 : decode cX8_foundBy 104 = .ok (.ireturn, 1) := by decide +kernel
theorem dX8_foundBy_105 : decode cX8_foundBy 105 = .ok (.iinc 3 1, 3) := by decide +kernel
theorem dX8_foundBy_108 : decode cX8_foundBy 108 = .ok (.goto (-106), 3) := by decide +kernel
theorem dX8_foundBy_111 : decode cX8_foundBy 111 = .ok (.iconst (-1), 1) := by decide +kernel
theorem dX8_foundBy_112 : decode cX8_foundBy 112 = .ok (.ireturn, 1) := by decide +kernel
set_option maxRecDepth 20000 in
theorem ggX8_notes_X8_bring : GoodIn wsX8_notes wsX8_bring := goodIn_r _ [7] (by decide +kernel) (by decide +kernel)
set_option maxRecDepth 20000 in
theorem gX8_notes_X8_bring : GoodIn wsX8_notes (va_wsS RX8 72 yX8_bring wsX8_bring) := goodIn_app (goodIn_of _ (by decide +kernel)) ggX8_notes_X8_bring
theorem dX8_notes_0 : decode cX8_notes 0 = .ok (.aload_n 0, 1) := by decide +kernel
theorem dX8_notes_1 : decode cX8_notes 1 = .ok (.getfield 46, 3) := by decide +kernel
theorem dX8_notes_4 : decode cX8_notes 4 = .ok (.bipush 12, 2) := by decide +kernel
theorem dX8_notes_6 : decode cX8_notes 6 = .ok (.if_icmp .ne 31, 3) := by decide +kernel
theorem dX8_notes_9 : decode cX8_notes 9 = .ok (.aload_n 0, 1) := by decide +kernel
theorem dX8_notes_10 : decode cX8_notes 10 = .ok (.getfield 14, 3) := by decide +kernel
theorem dX8_notes_13 : decode cX8_notes 13 = .ok (.sipush 2803, 3) := by decide +kernel
theorem dX8_notes_16 : decode cX8_notes 16 = .ok (.aload_n 0, 1) := by decide +kernel
theorem dX8_notes_17 : decode cX8_notes 17 = .ok (.getfield 14, 3) := by decide +kernel
theorem dX8_notes_20 : decode cX8_notes 20 = .ok (.iconst 0, 1) := by decide +kernel
theorem dX8_notes_21 : decode cX8_notes 21 = .ok (.sipush 30833, 3) := by decide +kernel
theorem dX8_notes_24 : decode cX8_notes 24 = .ok (.invokestatic 72, 3) := by decide +kernel
theorem dX8_notes_27 : decode cX8_notes 27 = .ok (.aload_n 0, 1) := by decide +kernel
theorem dX8_notes_28 : decode cX8_notes 28 = .ok (.dup, 1) := by decide +kernel
theorem dX8_notes_29 : decode cX8_notes 29 = .ok (.getfield 46, 3) := by decide +kernel
theorem dX8_notes_32 : decode cX8_notes 32 = .ok (.iconst 1, 1) := by decide +kernel
theorem dX8_notes_33 : decode cX8_notes 33 = .ok (.isub, 1) := by decide +kernel
theorem dX8_notes_34 : decode cX8_notes 34 = .ok (.putfield 46, 3) := by decide +kernel
theorem dX8_notes_37 : decode cX8_notes 37 = .ok (.aload_n 0, 1) := by decide +kernel
theorem dX8_notes_38 : decode cX8_notes 38 = .ok (.getfield 7, 3) := by decide +kernel
theorem dX8_notes_41 : decode cX8_notes 41 = .ok (.iconst 0, 1) := by decide +kernel
theorem dX8_notes_42 : decode cX8_notes 42 = .ok (.aload_n 0, 1) := by decide +kernel
theorem dX8_notes_43 : decode cX8_notes 43 = .ok (.getfield 14, 3) := by decide +kernel
theorem dX8_notes_46 : decode cX8_notes 46 = .ok (.sipush 2803, 3) := by decide +kernel
theorem dX8_notes_49 : decode cX8_notes 49 = .ok (.aload_n 0, 1) := by decide +kernel
theorem dX8_notes_50 : decode cX8_notes 50 = .ok (.getfield 46, 3) := by decide +kernel
theorem dX8_notes_53 : decode cX8_notes 53 = .ok (.imul, 1) := by decide +kernel
theorem dX8_notes_54 : decode cX8_notes 54 = .ok (.sipush 2803, 3) := by decide +kernel
theorem dX8_notes_57 : decode cX8_notes 57 = .ok (.invokestatic 72, 3) := by decide +kernel
theorem dX8_notes_60 : decode cX8_notes 60 = .ok (.aload_n 0, 1) := by decide +kernel
theorem dX8_notes_61 : decode cX8_notes 61 = .ok (.dup, 1) := by decide +kernel
theorem dX8_notes_62 : decode cX8_notes 62 = .ok (.getfield 46, 3) := by decide +kernel
theorem dX8_notes_65 : decode cX8_notes 65 = .ok (.iconst 1, 1) := by decide +kernel
theorem dX8_notes_66 : decode cX8_notes 66 = .ok (.iadd, 1) := by decide +kernel
theorem dX8_notes_67 : decode cX8_notes 67 = .ok (.putfield 46, 3) := by decide +kernel
theorem dX8_notes_70 : decode cX8_notes 70 = .ok (.return_, 1) := by decide +kernel
set_option maxRecDepth 20000 in
theorem ggX8_mayCome_X8_many : GoodIn wsX8_mayCome wsX8_many := goodIn_r _ [6, 1, 7, 8, 9, 10, 11, 12, 13, 14, 15, 16, 17, 18, 19, 20, 21, 22, 23, 24] (by decide +kernel) (by decide +kernel)
set_option maxRecDepth 20000 in
theorem gX8_mayCome_X8_many : GoodIn wsX8_mayCome (wsV RX8 76 RX8 yX8_many wsX8_many) := goodIn_app (goodIn_of _ (by decide +kernel)) ggX8_mayCome_X8_many
theorem dX8_mayCome_0 : decode cX8_mayCome 0 = .ok (.aload_n 0, 1) := by decide +kernel
theorem dX8_mayCome_1 : decode cX8_mayCome 1 = .ok (.invokevirtual 76, 3) := by decide +kernel
theorem dX8_mayCome_4 : decode cX8_mayCome 4 = .ok (.bipush 40, 2) := by decide +kernel
theorem dX8_mayCome_6 : decode cX8_mayCome 6 = .ok (.if_icmp .ge 21, 3) := by decide +kernel
theorem dX8_mayCome_9 : decode cX8_mayCome 9 = .ok (.aload_n 0, 1) := by decide +kernel
theorem dX8_mayCome_10 : decode cX8_mayCome 10 = .ok (.getfield 7, 3) := by decide +kernel
theorem dX8_mayCome_13 : decode cX8_mayCome 13 = .ok (.sipush 2800, 3) := by decide +kernel
theorem dX8_mayCome_16 : decode cX8_mayCome 16 = .ok (.iaload, 1) := by decide +kernel
theorem dX8_mayCome_17 : decode cX8_mayCome 17 = .ok (.sipush 200, 3) := by decide +kernel
theorem dX8_mayCome_20 : decode cX8_mayCome 20 = .ok (.if_icmp .ge 7, 3) := by decide +kernel
theorem dX8_mayCome_23 : decode cX8_mayCome 23 = .ok (.iconst 1, 1) := by decide +kernel
theorem dX8_mayCome_24 : decode cX8_mayCome 24 = .ok (.goto 4, 3) := by decide +kernel
theorem dX8_mayCome_27 : decode cX8_mayCome 27 = .ok (.iconst 0, 1) := by decide +kernel
theorem dX8_mayCome_28 : decode cX8_mayCome 28 = .ok (.ireturn, 1) := by decide +kernel
set_option maxRecDepth 20000 in
theorem ggX8_comes_X8_bring : GoodIn wsX8_comes wsX8_bring := goodIn_r _ [5] (by decide +kernel) (by decide +kernel)
set_option maxRecDepth 20000 in
theorem gX8_comes_X8_bring : GoodIn wsX8_comes (va_wsS RX8 72 yX8_bring wsX8_bring) := goodIn_app (goodIn_of _ (by decide +kernel)) ggX8_comes_X8_bring
theorem dX8_comes_0 : decode cX8_comes 0 = .ok (.aload_n 0, 1) := by decide +kernel
theorem dX8_comes_1 : decode cX8_comes 1 = .ok (.getfield 7, 3) := by decide +kernel
theorem dX8_comes_4 : decode cX8_comes 4 = .ok (.sipush 2800, 3) := by decide +kernel
theorem dX8_comes_7 : decode cX8_comes 7 = .ok (.iaload, 1) := by decide +kernel
theorem dX8_comes_8 : decode cX8_comes 8 = .ok (.istore 5, 2) := by decide +kernel
theorem dX8_comes_10 : decode cX8_comes 10 = .ok (.bipush 14, 2) := by decide +kernel
theorem dX8_comes_12 : decode cX8_comes 12 = .ok (.iload 5, 2) := by decide +kernel
theorem dX8_comes_14 : decode cX8_comes 14 = .ok (.imul, 1) := by decide +kernel
theorem dX8_comes_15 : decode cX8_comes 15 = .ok (.istore 6, 2) := by decide +kernel
theorem dX8_comes_17 : decode cX8_comes 17 = .ok (.aload_n 0, 1) := by decide +kernel
theorem dX8_comes_18 : decode cX8_comes 18 = .ok (.getfield 7, 3) := by decide +kernel
theorem dX8_comes_21 : decode cX8_comes 21 = .ok (.iload 6, 2) := by decide +kernel
theorem dX8_comes_23 : decode cX8_comes 23 = .ok (.iconst 1, 1) := by decide +kernel
theorem dX8_comes_24 : decode cX8_comes 24 = .ok (.iastore, 1) := by decide +kernel
theorem dX8_comes_25 : decode cX8_comes 25 = .ok (.aload_n 0, 1) := by decide +kernel
theorem dX8_comes_26 : decode cX8_comes 26 = .ok (.getfield 7, 3) := by decide +kernel
theorem dX8_comes_29 : decode cX8_comes 29 = .ok (.iload 6, 2) := by decide +kernel
theorem dX8_comes_31 : decode cX8_comes 31 = .ok (.iconst 1, 1) := by decide +kernel
theorem dX8_comes_32 : decode cX8_comes 32 = .ok (.iadd, 1) := by decide +kernel
theorem dX8_comes_33 : decode cX8_comes 33 = .ok (.iload_n 3, 1) := by decide +kernel
theorem dX8_comes_34 : decode cX8_comes 34 = .ok (.iastore, 1) := by decide +kernel
theorem dX8_comes_35 : decode cX8_comes 35 = .ok (.aload_n 0, 1) := by decide +kernel
theorem dX8_comes_36 : decode cX8_comes 36 = .ok (.getfield 7, 3) := by decide +kernel
theorem dX8_comes_39 : decode cX8_comes 39 = .ok (.iload 6, 2) := by decide +kernel
theorem dX8_comes_41 : decode cX8_comes 41 = .ok (.iconst 2, 1) := by decide +kernel
theorem dX8_comes_42 : decode cX8_comes 42 = .ok (.iadd, 1) := by decide +kernel
theorem dX8_comes_43 : decode cX8_comes 43 = .ok (.iload 4, 2) := by decide +kernel
theorem dX8_comes_45 : decode cX8_comes 45 = .ok (.iastore, 1) := by decide +kernel
theorem dX8_comes_46 : decode cX8_comes 46 = .ok (.aload_n 0, 1) := by decide +kernel
theorem dX8_comes_47 : decode cX8_comes 47 = .ok (.getfield 7, 3) := by decide +kernel
theorem dX8_comes_50 : decode cX8_comes 50 = .ok (.iload 6, 2) := by decide +kernel
theorem dX8_comes_52 : decode cX8_comes 52 = .ok (.iconst 3, 1) := by decide +kernel
theorem dX8_comes_53 : decode cX8_comes 53 = .ok (.iadd, 1) := by decide +kernel
theorem dX8_comes_54 : decode cX8_comes 54 = .ok (.iload_n 2, 1) := by decide +kernel
theorem dX8_comes_55 : decode cX8_comes 55 = .ok (.iastore, 1) := by decide +kernel
theorem dX8_comes_56 : decode cX8_comes 56 = .ok (.aload_n 0, 1) := by decide +kernel
theorem dX8_comes_57 : decode cX8_comes 57 = .ok (.getfield 7, 3) := by decide +kernel
theorem dX8_comes_60 : decode cX8_comes 60 = .ok (.iload 6, 2) := by decide +kernel
theorem dX8_comes_62 : decode cX8_comes 62 = .ok (.iconst 4, 1) := by decide +kernel
theorem dX8_comes_63 : decode cX8_comes 63 = .ok (.iadd, 1) := by decide +kernel
theorem dX8_comes_64 : decode cX8_comes 64 = .ok (.iconst 0, 1) := by decide +kernel
theorem dX8_comes_65 : decode cX8_comes 65 = .ok (.iastore, 1) := by decide +kernel
theorem dX8_comes_66 : decode cX8_comes 66 = .ok (.aload_n 0, 1) := by decide +kernel
theorem dX8_comes_67 : decode cX8_comes 67 = .ok (.getfield 7, 3) := by decide +kernel
theorem dX8_comes_70 : decode cX8_comes 70 = .ok (.iload 6, 2) := by decide +kernel
theorem dX8_comes_72 : decode cX8_comes 72 = .ok (.iconst 5, 1) := by decide +kernel
theorem dX8_comes_73 : decode cX8_comes 73 = .ok (.iadd, 1) := by decide +kernel
theorem dX8_comes_74 : decode cX8_comes 74 = .ok (.iconst (-1), 1) := by decide +kernel
theorem dX8_comes_75 : decode cX8_comes 75 = .ok (.iastore, 1) := by decide +kernel
theorem dX8_comes_76 : decode cX8_comes 76 = .ok (.aload_n 1, 1) := by decide +kernel
theorem dX8_comes_77 : decode cX8_comes 77 = .ok (.iconst 0, 1) := by decide +kernel
theorem dX8_comes_78 : decode cX8_comes 78 = .ok (.aload_n 0, 1) := by decide +kernel
theorem dX8_comes_79 : decode cX8_comes 79 = .ok (.getfield 7, 3) := by decide +kernel
theorem dX8_comes_82 : decode cX8_comes 82 = .ok (.iload 6, 2) := by decide +kernel
theorem dX8_comes_84 : decode cX8_comes 84 = .ok (.bipush 6, 2) := by decide +kernel
theorem dX8_comes_86 : decode cX8_comes 86 = .ok (.iadd, 1) := by decide +kernel
theorem dX8_comes_87 : decode cX8_comes 87 = .ok (.iload_n 2, 1) := by decide +kernel
theorem dX8_comes_88 : decode cX8_comes 88 = .ok (.invokestatic 72, 3) := by decide +kernel
theorem dX8_comes_91 : decode cX8_comes 91 = .ok (.aload_n 0, 1) := by decide +kernel
theorem dX8_comes_92 : decode cX8_comes 92 = .ok (.getfield 7, 3) := by decide +kernel
theorem dX8_comes_95 : decode cX8_comes 95 = .ok (.sipush 2800, 3) := by decide +kernel
theorem dX8_comes_98 : decode cX8_comes 98 = .ok (.dup2, 1) := by decide +kernel
theorem dX8_comes_99 : decode cX8_comes 99 = .ok (.iaload, 1) := by decide +kernel
theorem dX8_comes_100 : decode cX8_comes 100 = .ok (.iconst 1, 1) := by decide +kernel
theorem dX8_comes_101 : decode cX8_comes 101 = .ok (.iadd, 1) := by decide +kernel
theorem dX8_comes_102 : decode cX8_comes 102 = .ok (.iastore, 1) := by decide +kernel
theorem dX8_comes_103 : decode cX8_comes 103 = .ok (.iload 5, 2) := by decide +kernel
theorem dX8_comes_105 : decode cX8_comes 105 = .ok (.ireturn, 1) := by decide +kernel
set_option maxRecDepth 20000 in
theorem ggX8_adds_X8_in : GoodIn wsX8_adds wsX8_in := goodIn_r _ [6] (by decide +kernel) (by decide +kernel)
set_option maxRecDepth 20000 in
theorem gX8_adds_X8_in : GoodIn wsX8_adds (va_wsS RX8 42 yX8_in wsX8_in) := goodIn_app (goodIn_of _ (by decide +kernel)) ggX8_adds_X8_in
set_option maxRecDepth 20000 in
theorem ggX8_adds_X8_bad : GoodIn wsX8_adds wsX8_bad := goodIn_r _ [10, 11, 46, 47, 48, 49, 50, 51, 52, 53, 54, 55, 56, 57, 58, 59, 60, 61, 62, 63] (by decide +kernel) (by decide +kernel)
set_option maxRecDepth 20000 in
theorem gX8_adds_X8_bad : GoodIn wsX8_adds (wsV RX8 59 RX8 yX8_bad wsX8_bad) := goodIn_app (goodIn_of _ (by decide +kernel)) ggX8_adds_X8_bad
set_option maxRecDepth 20000 in
theorem ggX8_adds_X8_foundBy : GoodIn wsX8_adds wsX8_foundBy := goodIn_r _ [15, 16, 46, 47, 48, 49, 50, 51, 52, 53, 54, 55, 56, 57, 58, 59, 60, 61, 62, 63] (by decide +kernel) (by decide +kernel)
set_option maxRecDepth 20000 in
theorem gX8_adds_X8_foundBy : GoodIn wsX8_adds (wsV RX8 79 RX8 yX8_foundBy wsX8_foundBy) := goodIn_app (goodIn_of _ (by decide +kernel)) ggX8_adds_X8_foundBy
set_option maxRecDepth 20000 in
theorem ggX8_adds_X8_no : GoodIn wsX8_adds wsX8_no := goodIn_r _ [20, 11, 46, 47, 48, 49, 50, 51, 52, 53, 54, 55, 56, 57, 58, 59, 60, 61, 62, 63] (by decide +kernel) (by decide +kernel)
set_option maxRecDepth 20000 in
theorem gX8_adds_X8_no : GoodIn wsX8_adds (wsV RX8 65 RX8 yX8_no wsX8_no) := goodIn_app (goodIn_of _ (by decide +kernel)) ggX8_adds_X8_no
set_option maxRecDepth 20000 in
theorem ggX8_adds_X8_mayCome : GoodIn wsX8_adds wsX8_mayCome := goodIn_r _ [24, 16, 25, 26, 27, 5, 28, 46, 47, 48, 49, 50, 51, 52, 53, 54, 55, 56, 57, 58, 59, 60, 61, 62, 63] (by decide +kernel) (by decide +kernel)
set_option maxRecDepth 20000 in
theorem gX8_adds_X8_mayCome : GoodIn wsX8_adds (wsV RX8 83 RX8 yX8_mayCome wsX8_mayCome) := goodIn_app (goodIn_of _ (by decide +kernel)) ggX8_adds_X8_mayCome
set_option maxRecDepth 20000 in
theorem ggX8_adds_X8_full : GoodIn wsX8_adds wsX8_full := goodIn_r _ [32, 11, 46, 47, 48, 49, 50, 51, 52, 53, 54, 55, 56, 57, 58, 59, 60, 61, 62, 63] (by decide +kernel) (by decide +kernel)
set_option maxRecDepth 20000 in
theorem gX8_adds_X8_full : GoodIn wsX8_adds (wsV RX8 62 RX8 yX8_full wsX8_full) := goodIn_app (goodIn_of _ (by decide +kernel)) ggX8_adds_X8_full
set_option maxRecDepth 20000 in
theorem ggX8_adds_X8_notes : GoodIn wsX8_adds wsX8_notes := goodIn_r _ [36, 37, 38, 16, 39, 40, 5, 41, 46, 47, 48, 49, 50, 51, 52, 53, 54, 55, 56, 57, 58, 59, 60, 61, 62, 63] (by decide +kernel) (by decide +kernel)
set_option maxRecDepth 20000 in
theorem gX8_adds_X8_notes : GoodIn wsX8_adds (wsV RX8 87 RX8 yX8_notes wsX8_notes) := goodIn_app (goodIn_of _ (by decide +kernel)) ggX8_adds_X8_notes
set_option maxRecDepth 20000 in
theorem ggX8_adds_X8_comes : GoodIn wsX8_adds wsX8_comes := goodIn_r _ [45, 16, 39, 40, 5, 41, 46, 47, 48, 49, 50, 51, 52, 53, 54, 55, 56, 57, 58, 59, 60, 61, 62, 63] (by decide +kernel) (by decide +kernel)
set_option maxRecDepth 20000 in
theorem gX8_adds_X8_comes : GoodIn wsX8_adds (wsV RX8 90 RX8 yX8_comes wsX8_comes) := goodIn_app (goodIn_of _ (by decide +kernel)) ggX8_adds_X8_comes
theorem dX8_adds_0 : decode cX8_adds 0 = .ok (.iload_n 1, 1) := by decide +kernel
theorem dX8_adds_1 : decode cX8_adds 1 = .ok (.iconst 0, 1) := by decide +kernel
theorem dX8_adds_2 : decode cX8_adds 2 = .ok (.sipush 1000, 3) := by decide +kernel
theorem dX8_adds_5 : decode cX8_adds 5 = .ok (.invokestatic 42, 3) := by decide +kernel
theorem dX8_adds_8 : decode cX8_adds 8 = .ok (.ifCond .eq 13, 3) := by decide +kernel
theorem dX8_adds_11 : decode cX8_adds 11 = .ok (.iload_n 2, 1) := by decide +kernel
theorem dX8_adds_12 : decode cX8_adds 12 = .ok (.iconst 0, 1) := by decide +kernel
theorem dX8_adds_13 : decode cX8_adds 13 = .ok (.bipush 9, 2) := by decide +kernel
theorem dX8_adds_15 : decode cX8_adds 15 = .ok (.invokestatic 42, 3) := by decide +kernel
theorem dX8_adds_18 : decode cX8_adds 18 = .ok (.ifCond .ne 8, 3) := by decide +kernel
theorem dX8_adds_21 : decode cX8_adds 21 = .ok (.aload_n 0, 1) := by decide +kernel
theorem dX8_adds_22 : decode cX8_adds 22 = .ok (.invokevirtual 59, 3) := by decide +kernel
theorem dX8_adds_25 : decode cX8_adds 25 = .ok (.ireturn, 1) := by decide +kernel
theorem dX8_adds_26 : decode cX8_adds 26 = .ok (.aload_n 0, 1) := by decide +kernel
theorem dX8_adds_27 : decode cX8_adds 27 = .ok (.getfield 53, 3) := by decide +kernel
theorem dX8_adds_30 : decode cX8_adds 30 = .ok (.iconst 1, 1) := by decide +kernel
theorem dX8_adds_31 : decode cX8_adds 31 = .ok (.bipush 8, 2) := by decide +kernel
theorem dX8_adds_33 : decode cX8_adds 33 = .ok (.invokestatic 42, 3) := by decide +kernel
theorem dX8_adds_36 : decode cX8_adds 36 = .ok (.ifCond .eq 19, 3) := by decide +kernel
theorem dX8_adds_39 : decode cX8_adds 39 = .ok (.aload_n 0, 1) := by decide +kernel
theorem dX8_adds_40 : decode cX8_adds 40 = .ok (.aload_n 0, 1) := by decide +kernel
theorem dX8_adds_41 : decode cX8_adds 41 = .ok (.getfield 17, 3) := by decide +kernel
theorem dX8_adds_44 : decode cX8_adds 44 = .ok (.aload_n 0, 1) := by decide +kernel
theorem dX8_adds_45 : decode cX8_adds 45 = .ok (.getfield 53, 3) := by decide +kernel
theorem dX8_adds_48 : decode cX8_adds 48 = .ok (.invokevirtual 79, 3) := by decide +kernel
theorem dX8_adds_51 : decode cX8_adds 51 = .ok (.iconst (-1), 1) := by decide +kernel
theorem dX8_adds_52 : decode cX8_adds 52 = .ok (.if_icmp .eq 8, 3) := by decide +kernel
theorem dX8_adds_55 : decode cX8_adds 55 = .ok (.aload_n 0, 1) := by decide +kernel
theorem dX8_adds_56 : decode cX8_adds 56 = .ok (.invokevirtual 65, 3) := by decide +kernel
theorem dX8_adds_59 : decode cX8_adds 59 = .ok (.ireturn, 1) := by decide +kernel
theorem dX8_adds_60 : decode cX8_adds 60 = .ok (.aload_n 0, 1) := by decide +kernel
theorem dX8_adds_61 : decode cX8_adds 61 = .ok (.invokevirtual 83, 3) := by decide +kernel
theorem dX8_adds_64 : decode cX8_adds 64 = .ok (.ifCond .ne 8, 3) := by decide +kernel
theorem dX8_adds_67 : decode cX8_adds 67 = .ok (.aload_n 0, 1) := by decide +kernel
theorem dX8_adds_68 : decode cX8_adds 68 = .ok (.invokevirtual 62, 3) := by decide +kernel
theorem dX8_adds_71 : decode cX8_adds 71 = .ok (.ireturn, 1) := by decide +kernel
theorem dX8_adds_72 : decode cX8_adds 72 = .ok (.aload_n 0, 1) := by decide +kernel
theorem dX8_adds_73 : decode cX8_adds 73 = .ok (.invokevirtual 87, 3) := by decide +kernel
theorem dX8_adds_76 : decode cX8_adds 76 = .ok (.aload_n 0, 1) := by decide +kernel
theorem dX8_adds_77 : decode cX8_adds 77 = .ok (.aload_n 0, 1) := by decide +kernel
theorem dX8_adds_78 : decode cX8_adds 78 = .ok (.getfield 17, 3) := by decide +kernel
theorem dX8_adds_81 : decode cX8_adds 81 = .ok (.aload_n 0, 1) := by decide +kernel
theorem dX8_adds_82 : decode cX8_adds 82 = .ok (.getfield 53, 3) := by decide +kernel
theorem dX8_adds_85 : decode cX8_adds 85 = .ok (.iload_n 1, 1) := by decide +kernel
theorem dX8_adds_86 : decode cX8_adds 86 = .ok (.iload_n 2, 1) := by decide +kernel
theorem dX8_adds_87 : decode cX8_adds 87 = .ok (.invokevirtual 90, 3) := by decide +kernel
theorem dX8_adds_90 : decode cX8_adds 90 = .ok (.istore_n 3, 1) := by decide +kernel
theorem dX8_adds_91 : decode cX8_adds 91 = .ok (.aload_n 0, 1) := by decide +kernel
theorem dX8_adds_92 : decode cX8_adds 92 = .ok (.iconst 0, 1) := by decide +kernel
theorem dX8_adds_93 : decode cX8_adds 93 = .ok (.putfield 53, 3) := by decide +kernel
theorem dX8_adds_96 : decode cX8_adds 96 = .ok (.iload_n 3, 1) := by decide +kernel
theorem dX8_adds_97 : decode cX8_adds 97 = .ok (.ireturn, 1) := by decide +kernel
set_option maxRecDepth 20000 in
theorem ggX8_of_X8_isThere : GoodIn wsX8_of wsX8_isThere := goodIn_r _ [6, 1, 7, 8, 5, 9, 15, 16, 17, 18, 19, 20, 21, 22, 23, 24, 25, 26, 27, 28, 29, 30, 31, 32] (by decide +kernel) (by decide +kernel)
set_option maxRecDepth 20000 in
theorem gX8_of_X8_isThere : GoodIn wsX8_of (wsV RX8 68 RX8 yX8_isThere wsX8_isThere) := goodIn_app (goodIn_of _ (by decide +kernel)) ggX8_of_X8_isThere
set_option maxRecDepth 20000 in
theorem ggX8_of_X8_in : GoodIn wsX8_of wsX8_in := goodIn_r _ [9] (by decide +kernel) (by decide +kernel)
set_option maxRecDepth 20000 in
theorem gX8_of_X8_in : GoodIn wsX8_of (va_wsS RX8 42 yX8_in wsX8_in) := goodIn_app (goodIn_of _ (by decide +kernel)) ggX8_of_X8_in
set_option maxRecDepth 20000 in
theorem ggX8_of_X8_bad : GoodIn wsX8_of wsX8_bad := goodIn_r _ [13, 14, 15, 16, 17, 18, 19, 20, 21, 22, 23, 24, 25, 26, 27, 28, 29, 30, 31, 32] (by decide +kernel) (by decide +kernel)
set_option maxRecDepth 20000 in
theorem gX8_of_X8_bad : GoodIn wsX8_of (wsV RX8 59 RX8 yX8_bad wsX8_bad) := goodIn_app (goodIn_of _ (by decide +kernel)) ggX8_of_X8_bad
theorem dX8_of_0 : decode cX8_of 0 = .ok (.aload_n 0, 1) := by decide +kernel
theorem dX8_of_1 : decode cX8_of 1 = .ok (.iload_n 1, 1) := by decide +kernel
theorem dX8_of_2 : decode cX8_of 2 = .ok (.invokevirtual 68, 3) := by decide +kernel
theorem dX8_of_5 : decode cX8_of 5 = .ok (.ifCond .eq 28, 3) := by decide +kernel
theorem dX8_of_8 : decode cX8_of 8 = .ok (.iload_n 2, 1) := by decide +kernel
theorem dX8_of_9 : decode cX8_of 9 = .ok (.iconst 0, 1) := by decide +kernel
theorem dX8_of_10 : decode cX8_of 10 = .ok (.iconst 4, 1) := by decide +kernel
theorem dX8_of_11 : decode cX8_of 11 = .ok (.invokestatic 42, 3) := by decide +kernel
theorem dX8_of_14 : decode cX8_of 14 = .ok (.ifCond .eq 19, 3) := by decide +kernel
theorem dX8_of_17 : decode cX8_of 17 = .ok (.aload_n 0, 1) := by decide +kernel
theorem dX8_of_18 : decode cX8_of 18 = .ok (.getfield 7, 3) := by decide +kernel
theorem dX8_of_21 : decode cX8_of 21 = .ok (.bipush 14, 2) := by decide +kernel
theorem dX8_of_23 : decode cX8_of 23 = .ok (.iload_n 1, 1) := by decide +kernel
theorem dX8_of_24 : decode cX8_of 24 = .ok (.imul, 1) := by decide +kernel
theorem dX8_of_25 : decode cX8_of 25 = .ok (.iconst 1, 1) := by decide +kernel
theorem dX8_of_26 : decode cX8_of 26 = .ok (.iadd, 1) := by decide +kernel
theorem dX8_of_27 : decode cX8_of 27 = .ok (.iload_n 2, 1) := by decide +kernel
theorem dX8_of_28 : decode cX8_of 28 = .ok (.iadd, 1) := by decide +kernel
theorem dX8_of_29 : decode cX8_of 29 = .ok (.iaload, 1) := by decide +kernel
theorem dX8_of_30 : decode cX8_of 30 = .ok (.goto 7, 3) := by decide +kernel
theorem dX8_of_33 : decode cX8_of 33 = .ok (.aload_n 0, 1) := by decide +kernel
theorem dX8_of_34 : decode cX8_of 34 = .ok (.invokevirtual 59, 3) := by decide +kernel
theorem dX8_of_37 : decode cX8_of 37 = .ok (.ireturn, 1) := by decide +kernel
set_option maxRecDepth 20000 in
theorem ggX8_letter_X8_isThere : GoodIn wsX8_letter wsX8_isThere := goodIn_r _ [6, 1, 7, 8, 5, 9, 15, 16, 17, 18, 19, 20, 21, 22, 23, 24, 25, 26, 27, 28, 29, 30, 31, 32] (by decide +kernel) (by decide +kernel)
set_option maxRecDepth 20000 in
theorem gX8_letter_X8_isThere : GoodIn wsX8_letter (wsV RX8 68 RX8 yX8_isThere wsX8_isThere) := goodIn_app (goodIn_of _ (by decide +kernel)) ggX8_letter_X8_isThere
set_option maxRecDepth 20000 in
theorem ggX8_letter_X8_bad : GoodIn wsX8_letter wsX8_bad := goodIn_r _ [13, 14, 15, 16, 17, 18, 19, 20, 21, 22, 23, 24, 25, 26, 27, 28, 29, 30, 31, 32] (by decide +kernel) (by decide +kernel)
set_option maxRecDepth 20000 in
theorem gX8_letter_X8_bad : GoodIn wsX8_letter (wsV RX8 59 RX8 yX8_bad wsX8_bad) := goodIn_app (goodIn_of _ (by decide +kernel)) ggX8_letter_X8_bad
theorem dX8_letter_0 : decode cX8_letter 0 = .ok (.aload_n 0, 1) := by decide +kernel
theorem dX8_letter_1 : decode cX8_letter 1 = .ok (.iload_n 1, 1) := by decide +kernel
theorem dX8_letter_2 : decode cX8_letter 2 = .ok (.invokevirtual 68, 3) := by decide +kernel
theorem dX8_letter_5 : decode cX8_letter 5 = .ok (.ifCond .eq 7, 3) := by decide +kernel
theorem dX8_letter_8 : decode cX8_letter 8 = .ok (.iload_n 2, 1) := by decide +kernel
theorem dX8_letter_9 : decode cX8_letter 9 = .ok (.ifCond .ge 8, 3) := by decide +kernel
theorem dX8_letter_12 : decode cX8_letter 12 = .ok (.aload_n 0, 1) := by decide +kernel
theorem dX8_letter_13 : decode cX8_letter 13 = .ok (.invokevirtual 59, 3) := by decide +kernel
theorem dX8_letter_16 : decode cX8_letter 16 = .ok (.ireturn, 1) := by decide +kernel
theorem dX8_letter_17 : decode cX8_letter 17 = .ok (.iload_n 2, 1) := by decide +kernel
theorem dX8_letter_18 : decode cX8_letter 18 = .ok (.aload_n 0, 1) := by decide +kernel
theorem dX8_letter_19 : decode cX8_letter 19 = .ok (.getfield 7, 3) := by decide +kernel
theorem dX8_letter_22 : decode cX8_letter 22 = .ok (.bipush 14, 2) := by decide +kernel
theorem dX8_letter_24 : decode cX8_letter 24 = .ok (.iload_n 1, 1) := by decide +kernel
theorem dX8_letter_25 : decode cX8_letter 25 = .ok (.imul, 1) := by decide +kernel
theorem dX8_letter_26 : decode cX8_letter 26 = .ok (.iconst 3, 1) := by decide +kernel
theorem dX8_letter_27 : decode cX8_letter 27 = .ok (.iadd, 1) := by decide +kernel
theorem dX8_letter_28 : decode cX8_letter 28 = .ok (.iaload, 1) := by decide +kernel
theorem dX8_letter_29 : decode cX8_letter 29 = .ok (.if_icmp .ge 20, 3) := by decide +kernel
theorem dX8_letter_32 : decode cX8_letter 32 = .ok (.aload_n 0, 1) := by decide +kernel
theorem dX8_letter_33 : decode cX8_letter 33 = .ok (.getfield 7, 3) := by decide +kernel
theorem dX8_letter_36 : decode cX8_letter 36 = .ok (.bipush 14, 2) := by decide +kernel
theorem dX8_letter_38 : decode cX8_letter 38 = .ok (.iload_n 1, 1) := by decide +kernel
theorem dX8_letter_39 : decode cX8_letter 39 = .ok (.imul, 1) := by decide +kernel
theorem dX8_letter_40 : decode cX8_letter 40 = .ok (.bipush 6, 2) := by decide +kernel
theorem dX8_letter_42 : decode cX8_letter 42 = .ok (.iadd, 1) := by decide +kernel
theorem dX8_letter_43 : decode cX8_letter 43 = .ok (.iload_n 2, 1) := by decide +kernel
theorem dX8_letter_44 : decode cX8_letter 44 = .ok (.iadd, 1) := by decide +kernel
theorem dX8_letter_45 : decode cX8_letter 45 = .ok (.iaload, 1) := by decide +kernel
theorem dX8_letter_46 : decode cX8_letter 46 = .ok (.goto 4, 3) := by decide +kernel
theorem dX8_letter_49 : decode cX8_letter 49 = .ok (.iconst (-1), 1) := by decide +kernel
theorem dX8_letter_50 : decode cX8_letter 50 = .ok (.ireturn, 1) := by decide +kernel
theorem dX8_held_0 : decode cX8_held 0 = .ok (.iload_n 0, 1) := by decide +kernel
theorem dX8_held_1 : decode cX8_held 1 = .ok (.sipush 1000, 3) := by decide +kernel
theorem dX8_held_4 : decode cX8_held 4 = .ok (.if_icmp .le 9, 3) := by decide +kernel
theorem dX8_held_7 : decode cX8_held 7 = .ok (.sipush 1000, 3) := by decide +kernel
theorem dX8_held_10 : decode cX8_held 10 = .ok (.goto 12, 3) := by decide +kernel
theorem dX8_held_13 : decode cX8_held 13 = .ok (.iload_n 0, 1) := by decide +kernel
theorem dX8_held_14 : decode cX8_held 14 = .ok (.ifCond .ge 7, 3) := by decide +kernel
theorem dX8_held_17 : decode cX8_held 17 = .ok (.iconst 0, 1) := by decide +kernel
theorem dX8_held_18 : decode cX8_held 18 = .ok (.goto 4, 3) := by decide +kernel
theorem dX8_held_21 : decode cX8_held 21 = .ok (.iload_n 0, 1) := by decide +kernel
theorem dX8_held_22 : decode cX8_held 22 = .ok (.ireturn, 1) := by decide +kernel
set_option maxRecDepth 20000 in
theorem ggX8_scoreBy_X8_held : GoodIn wsX8_scoreBy wsX8_held := goodIn_r _ [5] (by decide +kernel) (by decide +kernel)
set_option maxRecDepth 20000 in
theorem gX8_scoreBy_X8_held : GoodIn wsX8_scoreBy (va_wsS RX8 94 yX8_held wsX8_held) := goodIn_app (goodIn_of _ (by decide +kernel)) ggX8_scoreBy_X8_held
theorem dX8_scoreBy_0 : decode cX8_scoreBy 0 = .ok (.aload_n 0, 1) := by decide +kernel
theorem dX8_scoreBy_1 : decode cX8_scoreBy 1 = .ok (.getfield 7, 3) := by decide +kernel
theorem dX8_scoreBy_4 : decode cX8_scoreBy 4 = .ok (.bipush 14, 2) := by decide +kernel
theorem dX8_scoreBy_6 : decode cX8_scoreBy 6 = .ok (.iload_n 2, 1) := by decide +kernel
theorem dX8_scoreBy_7 : decode cX8_scoreBy 7 = .ok (.imul, 1) := by decide +kernel
theorem dX8_scoreBy_8 : decode cX8_scoreBy 8 = .ok (.iconst 1, 1) := by decide +kernel
theorem dX8_scoreBy_9 : decode cX8_scoreBy 9 = .ok (.iadd, 1) := by decide +kernel
theorem dX8_scoreBy_10 : decode cX8_scoreBy 10 = .ok (.iaload, 1) := by decide +kernel
theorem dX8_scoreBy_11 : decode cX8_scoreBy 11 = .ok (.istore 4, 2) := by decide +kernel
theorem dX8_scoreBy_13 : decode cX8_scoreBy 13 = .ok (.iload 4, 2) := by decide +kernel
theorem dX8_scoreBy_15 : decode cX8_scoreBy 15 = .ok (.bipush 10, 2) := by decide +kernel
theorem dX8_scoreBy_17 : decode cX8_scoreBy 17 = .ok (.iadd, 1) := by decide +kernel
theorem dX8_scoreBy_18 : decode cX8_scoreBy 18 = .ok (.invokestatic 94, 3) := by decide +kernel
theorem dX8_scoreBy_21 : decode cX8_scoreBy 21 = .ok (.istore 5, 2) := by decide +kernel
theorem dX8_scoreBy_23 : decode cX8_scoreBy 23 = .ok (.aload_n 0, 1) := by decide +kernel
theorem dX8_scoreBy_24 : decode cX8_scoreBy 24 = .ok (.getfield 7, 3) := by decide +kernel
theorem dX8_scoreBy_27 : decode cX8_scoreBy 27 = .ok (.bipush 14, 2) := by decide +kernel
theorem dX8_scoreBy_29 : decode cX8_scoreBy 29 = .ok (.iload_n 2, 1) := by decide +kernel
theorem dX8_scoreBy_30 : decode cX8_scoreBy 30 = .ok (.imul, 1) := by decide +kernel
theorem dX8_scoreBy_31 : decode cX8_scoreBy 31 = .ok (.iconst 5, 1) := by decide +kernel
theorem dX8_scoreBy_32 : decode cX8_scoreBy 32 = .ok (.iadd, 1) := by decide +kernel
theorem dX8_scoreBy_33 : decode cX8_scoreBy 33 = .ok (.iaload, 1) := by decide +kernel
theorem dX8_scoreBy_34 : decode cX8_scoreBy 34 = .ok (.ifCond .lt 24, 3) := by decide +kernel
theorem dX8_scoreBy_37 : decode cX8_scoreBy 37 = .ok (.aload_n 0, 1) := by decide +kernel
theorem dX8_scoreBy_38 : decode cX8_scoreBy 38 = .ok (.getfield 7, 3) := by decide +kernel
theorem dX8_scoreBy_41 : decode cX8_scoreBy 41 = .ok (.bipush 14, 2) := by decide +kernel
theorem dX8_scoreBy_43 : decode cX8_scoreBy 43 = .ok (.iload_n 2, 1) := by decide +kernel
theorem dX8_scoreBy_44 : decode cX8_scoreBy 44 = .ok (.imul, 1) := by decide +kernel
theorem dX8_scoreBy_45 : decode cX8_scoreBy 45 = .ok (.iconst 5, 1) := by decide +kernel
theorem dX8_scoreBy_46 : decode cX8_scoreBy 46 = .ok (.iadd, 1) := by decide +kernel
theorem dX8_scoreBy_47 : decode cX8_scoreBy 47 = .ok (.iaload, 1) := by decide +kernel
theorem dX8_scoreBy_48 : decode cX8_scoreBy 48 = .ok (.iload_n 3, 1) := by decide +kernel
theorem dX8_scoreBy_49 : decode cX8_scoreBy 49 = .ok (.iconst 3, 1) := by decide +kernel
theorem dX8_scoreBy_50 : decode cX8_scoreBy 50 = .ok (.isub, 1) := by decide +kernel
theorem dX8_scoreBy_51 : decode cX8_scoreBy 51 = .ok (.if_icmp .lt 7, 3) := by decide +kernel
theorem dX8_scoreBy_54 : decode cX8_scoreBy 54 = .ok (.iconst 1, 1) := by decide +kernel
theorem dX8_scoreBy_55 : decode cX8_scoreBy 55 = .ok (.goto 4, 3) := by decide +kernel
theorem dX8_scoreBy_58 : decode cX8_scoreBy 58 = .ok (.iconst 0, 1) := by decide +kernel
theorem dX8_scoreBy_59 : decode cX8_scoreBy 59 = .ok (.istore 6, 2) := by decide +kernel
theorem dX8_scoreBy_61 : decode cX8_scoreBy 61 = .ok (.iload 6, 2) := by decide +kernel
theorem dX8_scoreBy_63 : decode cX8_scoreBy 63 = .ok (.ifCond .eq 14, 3) := by decide +kernel
theorem dX8_scoreBy_66 : decode cX8_scoreBy 66 = .ok (.iload 5, 2) := by decide +kernel
theorem dX8_scoreBy_68 : decode cX8_scoreBy 68 = .ok (.bipush 20, 2) := by decide +kernel
theorem dX8_scoreBy_70 : decode cX8_scoreBy 70 = .ok (.iadd, 1) := by decide +kernel
theorem dX8_scoreBy_71 : decode cX8_scoreBy 71 = .ok (.invokestatic 94, 3) := by decide +kernel
theorem dX8_scoreBy_74 : decode cX8_scoreBy 74 = .ok (.goto 5, 3) := by decide +kernel
theorem dX8_scoreBy_77 : decode cX8_scoreBy 77 = .ok (.iload 5, 2) := by decide +kernel
theorem dX8_scoreBy_79 : decode cX8_scoreBy 79 = .ok (.istore 7, 2) := by decide +kernel
theorem dX8_scoreBy_81 : decode cX8_scoreBy 81 = .ok (.aload_n 0, 1) := by decide +kernel
theorem dX8_scoreBy_82 : decode cX8_scoreBy 82 = .ok (.getfield 7, 3) := by decide +kernel
theorem dX8_scoreBy_85 : decode cX8_scoreBy 85 = .ok (.bipush 14, 2) := by decide +kernel
theorem dX8_scoreBy_87 : decode cX8_scoreBy 87 = .ok (.iload_n 2, 1) := by decide +kernel
theorem dX8_scoreBy_88 : decode cX8_scoreBy 88 = .ok (.imul, 1) := by decide +kernel
theorem dX8_scoreBy_89 : decode cX8_scoreBy 89 = .ok (.iconst 4, 1) := by decide +kernel
theorem dX8_scoreBy_90 : decode cX8_scoreBy 90 = .ok (.iadd, 1) := by decide +kernel
theorem dX8_scoreBy_91 : decode cX8_scoreBy 91 = .ok (.iaload, 1) := by decide +kernel
theorem dX8_scoreBy_92 : decode cX8_scoreBy 92 = .ok (.istore 8, 2) := by decide +kernel
theorem dX8_scoreBy_94 : decode cX8_scoreBy 94 = .ok (.iload_n 1, 1) := by decide +kernel
theorem dX8_scoreBy_95 : decode cX8_scoreBy 95 = .ok (.tableswitch 59 0 3 #[29, 32, 35, 38], 29) := by decide +kernel
theorem dX8_scoreBy_124 : decode cX8_scoreBy 124 = .ok (.iload 4, 2) := by decide +kernel
theorem dX8_scoreBy_126 : decode cX8_scoreBy 126 = .ok (.ireturn, 1) := by decide +kernel
theorem dX8_scoreBy_127 : decode cX8_scoreBy 127 = .ok (.iload 5, 2) := by decide +kernel
theorem dX8_scoreBy_129 : decode cX8_scoreBy 129 = .ok (.ireturn, 1) := by decide +kernel
theorem dX8_scoreBy_130 : decode cX8_scoreBy 130 = .ok (.iload 7, 2) := by decide +kernel
theorem dX8_scoreBy_132 : decode cX8_scoreBy 132 = .ok (.ireturn, 1) := by decide +kernel
theorem dX8_scoreBy_133 : decode cX8_scoreBy 133 = .ok (.iload 5, 2) := by decide +kernel
theorem dX8_scoreBy_135 : decode cX8_scoreBy 135 = .ok (.iload 8, 2) := by decide +kernel
theorem dX8_scoreBy_137 : decode cX8_scoreBy 137 = .ok (.bipush 30, 2) := by decide +kernel
theorem dX8_scoreBy_139 : decode cX8_scoreBy 139 = .ok (.if_icmp .le 8, 3) := by decide +kernel
theorem dX8_scoreBy_142 : decode cX8_scoreBy 142 = .ok (.bipush 30, 2) := by decide +kernel
theorem dX8_scoreBy_144 : decode cX8_scoreBy 144 = .ok (.goto 5, 3) := by decide +kernel
theorem dX8_scoreBy_147 : decode cX8_scoreBy 147 = .ok (.iload 8, 2) := by decide +kernel
theorem dX8_scoreBy_149 : decode cX8_scoreBy 149 = .ok (.iadd, 1) := by decide +kernel
theorem dX8_scoreBy_150 : decode cX8_scoreBy 150 = .ok (.invokestatic 94, 3) := by decide +kernel
theorem dX8_scoreBy_153 : decode cX8_scoreBy 153 = .ok (.ireturn, 1) := by decide +kernel
theorem dX8_scoreBy_154 : decode cX8_scoreBy 154 = .ok (.iload 4, 2) := by decide +kernel
theorem dX8_scoreBy_156 : decode cX8_scoreBy 156 = .ok (.iconst 2, 1) := by decide +kernel
theorem dX8_scoreBy_157 : decode cX8_scoreBy 157 = .ok (.iload 7, 2) := by decide +kernel
theorem dX8_scoreBy_159 : decode cX8_scoreBy 159 = .ok (.iload 4, 2) := by decide +kernel
theorem dX8_scoreBy_161 : decode cX8_scoreBy 161 = .ok (.isub, 1) := by decide +kernel
theorem dX8_scoreBy_162 : decode cX8_scoreBy 162 = .ok (.imul, 1) := by decide +kernel
theorem dX8_scoreBy_163 : decode cX8_scoreBy 163 = .ok (.iadd, 1) := by decide +kernel
theorem dX8_scoreBy_164 : decode cX8_scoreBy 164 = .ok (.invokestatic 94, 3) := by decide +kernel
theorem dX8_scoreBy_167 : decode cX8_scoreBy 167 = .ok (.ireturn, 1) := by decide +kernel
set_option maxRecDepth 20000 in
theorem ggX8_chosen_X8_scoreBy : GoodIn wsX8_chosen wsX8_scoreBy := goodIn_r _ [7, 2, 8, 9, 6, 10, 11, 12, 13, 14, 15, 16, 17, 18, 19, 20, 21, 22, 23, 24, 25, 26, 27, 28] (by decide +kernel) (by decide +kernel)
set_option maxRecDepth 20000 in
theorem gX8_chosen_X8_scoreBy : GoodIn wsX8_chosen (wsV RX8 98 RX8 yX8_scoreBy wsX8_scoreBy) := goodIn_app (goodIn_of _ (by decide +kernel)) ggX8_chosen_X8_scoreBy
theorem dX8_chosen_0 : decode cX8_chosen 0 = .ok (.aload_n 0, 1) := by decide +kernel
theorem dX8_chosen_1 : decode cX8_chosen 1 = .ok (.aload_n 0, 1) := by decide +kernel
theorem dX8_chosen_2 : decode cX8_chosen 2 = .ok (.getfield 50, 3) := by decide +kernel
theorem dX8_chosen_5 : decode cX8_chosen 5 = .ok (.sipush 9999, 3) := by decide +kernel
theorem dX8_chosen_8 : decode cX8_chosen 8 = .ok (.if_icmp .ne 9, 3) := by decide +kernel
theorem dX8_chosen_11 : decode cX8_chosen 11 = .ok (.sipush 9999, 3) := by decide +kernel
theorem dX8_chosen_14 : decode cX8_chosen 14 = .ok (.goto 9, 3) := by decide +kernel
theorem dX8_chosen_17 : decode cX8_chosen 17 = .ok (.aload_n 0, 1) := by decide +kernel
theorem dX8_chosen_18 : decode cX8_chosen 18 = .ok (.getfield 50, 3) := by decide +kernel
theorem dX8_chosen_21 : decode cX8_chosen 21 = .ok (.iconst 1, 1) := by decide +kernel
theorem dX8_chosen_22 : decode cX8_chosen 22 = .ok (.iadd, 1) := by decide +kernel
theorem dX8_chosen_23 : decode cX8_chosen 23 = .ok (.putfield 50, 3) := by decide +kernel
theorem dX8_chosen_26 : decode cX8_chosen 26 = .ok (.aload_n 0, 1) := by decide +kernel
theorem dX8_chosen_27 : decode cX8_chosen 27 = .ok (.getfield 7, 3) := by decide +kernel
theorem dX8_chosen_30 : decode cX8_chosen 30 = .ok (.bipush 14, 2) := by decide +kernel
theorem dX8_chosen_32 : decode cX8_chosen 32 = .ok (.iload_n 1, 1) := by decide +kernel
theorem dX8_chosen_33 : decode cX8_chosen 33 = .ok (.imul, 1) := by decide +kernel
theorem dX8_chosen_34 : decode cX8_chosen 34 = .ok (.iconst 1, 1) := by decide +kernel
theorem dX8_chosen_35 : decode cX8_chosen 35 = .ok (.iadd, 1) := by decide +kernel
theorem dX8_chosen_36 : decode cX8_chosen 36 = .ok (.aload_n 0, 1) := by decide +kernel
theorem dX8_chosen_37 : decode cX8_chosen 37 = .ok (.aload_n 0, 1) := by decide +kernel
theorem dX8_chosen_38 : decode cX8_chosen 38 = .ok (.getfield 7, 3) := by decide +kernel
theorem dX8_chosen_41 : decode cX8_chosen 41 = .ok (.sipush 2801, 3) := by decide +kernel
theorem dX8_chosen_44 : decode cX8_chosen 44 = .ok (.iaload, 1) := by decide +kernel
theorem dX8_chosen_45 : decode cX8_chosen 45 = .ok (.iload_n 1, 1) := by decide +kernel
theorem dX8_chosen_46 : decode cX8_chosen 46 = .ok (.aload_n 0, 1) := by decide +kernel
theorem dX8_chosen_47 : decode cX8_chosen 47 = .ok (.getfield 50, 3) := by decide +kernel
theorem dX8_chosen_50 : decode cX8_chosen 50 = .ok (.invokevirtual 98, 3) := by decide +kernel
theorem dX8_chosen_53 : decode cX8_chosen 53 = .ok (.iastore, 1) := by decide +kernel
theorem dX8_chosen_54 : decode cX8_chosen 54 = .ok (.aload_n 0, 1) := by decide +kernel
theorem dX8_chosen_55 : decode cX8_chosen 55 = .ok (.getfield 7, 3) := by decide +kernel
theorem dX8_chosen_58 : decode cX8_chosen 58 = .ok (.bipush 14, 2) := by decide +kernel
theorem dX8_chosen_60 : decode cX8_chosen 60 = .ok (.iload_n 1, 1) := by decide +kernel
theorem dX8_chosen_61 : decode cX8_chosen 61 = .ok (.imul, 1) := by decide +kernel
theorem dX8_chosen_62 : decode cX8_chosen 62 = .ok (.iconst 4, 1) := by decide +kernel
theorem dX8_chosen_63 : decode cX8_chosen 63 = .ok (.iadd, 1) := by decide +kernel
theorem dX8_chosen_64 : decode cX8_chosen 64 = .ok (.dup2, 1) := by decide +kernel
theorem dX8_chosen_65 : decode cX8_chosen 65 = .ok (.iaload, 1) := by decide +kernel
theorem dX8_chosen_66 : decode cX8_chosen 66 = .ok (.iconst 1, 1) := by decide +kernel
theorem dX8_chosen_67 : decode cX8_chosen 67 = .ok (.iadd, 1) := by decide +kernel
theorem dX8_chosen_68 : decode cX8_chosen 68 = .ok (.iastore, 1) := by decide +kernel
theorem dX8_chosen_69 : decode cX8_chosen 69 = .ok (.aload_n 0, 1) := by decide +kernel
theorem dX8_chosen_70 : decode cX8_chosen 70 = .ok (.getfield 7, 3) := by decide +kernel
theorem dX8_chosen_73 : decode cX8_chosen 73 = .ok (.bipush 14, 2) := by decide +kernel
theorem dX8_chosen_75 : decode cX8_chosen 75 = .ok (.iload_n 1, 1) := by decide +kernel
theorem dX8_chosen_76 : decode cX8_chosen 76 = .ok (.imul, 1) := by decide +kernel
theorem dX8_chosen_77 : decode cX8_chosen 77 = .ok (.iconst 5, 1) := by decide +kernel
theorem dX8_chosen_78 : decode cX8_chosen 78 = .ok (.iadd, 1) := by decide +kernel
theorem dX8_chosen_79 : decode cX8_chosen 79 = .ok (.aload_n 0, 1) := by decide +kernel
theorem dX8_chosen_80 : decode cX8_chosen 80 = .ok (.getfield 50, 3) := by decide +kernel
theorem dX8_chosen_83 : decode cX8_chosen 83 = .ok (.iastore, 1) := by decide +kernel
theorem dX8_chosen_84 : decode cX8_chosen 84 = .ok (.aload_n 0, 1) := by decide +kernel
theorem dX8_chosen_85 : decode cX8_chosen 85 = .ok (.getfield 7, 3) := by decide +kernel
theorem dX8_chosen_88 : decode cX8_chosen 88 = .ok (.bipush 14, 2) := by decide +kernel
theorem dX8_chosen_90 : decode cX8_chosen 90 = .ok (.iload_n 1, 1) := by decide +kernel
theorem dX8_chosen_91 : decode cX8_chosen 91 = .ok (.imul, 1) := by decide +kernel
theorem dX8_chosen_92 : decode cX8_chosen 92 = .ok (.iconst 1, 1) := by decide +kernel
theorem dX8_chosen_93 : decode cX8_chosen 93 = .ok (.iadd, 1) := by decide +kernel
theorem dX8_chosen_94 : decode cX8_chosen 94 = .ok (.iaload, 1) := by decide +kernel
theorem dX8_chosen_95 : decode cX8_chosen 95 = .ok (.ireturn, 1) := by decide +kernel
set_option maxRecDepth 20000 in
theorem ggX8_use_X8_isThere : GoodIn wsX8_use wsX8_isThere := goodIn_r _ [5, 6, 7, 8, 4, 9, 36, 37, 38, 39, 40, 41, 42, 43, 44, 45, 46, 47, 48, 49, 50, 51, 52, 53] (by decide +kernel) (by decide +kernel)
set_option maxRecDepth 20000 in
theorem gX8_use_X8_isThere : GoodIn wsX8_use (wsV RX8 68 RX8 yX8_isThere wsX8_isThere) := goodIn_app (goodIn_of _ (by decide +kernel)) ggX8_use_X8_isThere
set_option maxRecDepth 20000 in
theorem ggX8_use_X8_bad : GoodIn wsX8_use wsX8_bad := goodIn_r _ [13, 14, 36, 37, 38, 39, 40, 41, 42, 43, 44, 45, 46, 47, 48, 49, 50, 51, 52, 53] (by decide +kernel) (by decide +kernel)
set_option maxRecDepth 20000 in
theorem gX8_use_X8_bad : GoodIn wsX8_use (wsV RX8 59 RX8 yX8_bad wsX8_bad) := goodIn_app (goodIn_of _ (by decide +kernel)) ggX8_use_X8_bad
set_option maxRecDepth 20000 in
theorem ggX8_use_X8_notes : GoodIn wsX8_use wsX8_notes := goodIn_r _ [18, 19, 20, 6, 21, 22, 4, 23, 36, 37, 38, 39, 40, 41, 42, 43, 44, 45, 46, 47, 48, 49, 50, 51, 52, 53] (by decide +kernel) (by decide +kernel)
set_option maxRecDepth 20000 in
theorem gX8_use_X8_notes : GoodIn wsX8_use (wsV RX8 87 RX8 yX8_notes wsX8_notes) := goodIn_app (goodIn_of _ (by decide +kernel)) ggX8_use_X8_notes
set_option maxRecDepth 20000 in
theorem ggX8_use_X8_chosen : GoodIn wsX8_use wsX8_chosen := goodIn_r _ [27, 28, 6, 29, 30, 31, 4, 32, 33, 34, 35, 36, 37, 38, 39, 40, 41, 42, 43, 44, 45, 46, 47, 48, 49, 50, 51, 52, 53] (by decide +kernel) (by decide +kernel)
set_option maxRecDepth 20000 in
theorem gX8_use_X8_chosen : GoodIn wsX8_use (wsV RX8 102 RX8 yX8_chosen wsX8_chosen) := goodIn_app (goodIn_of _ (by decide +kernel)) ggX8_use_X8_chosen
theorem dX8_use_0 : decode cX8_use 0 = .ok (.aload_n 0, 1) := by decide +kernel
theorem dX8_use_1 : decode cX8_use 1 = .ok (.iload_n 1, 1) := by decide +kernel
theorem dX8_use_2 : decode cX8_use 2 = .ok (.invokevirtual 68, 3) := by decide +kernel
theorem dX8_use_5 : decode cX8_use 5 = .ok (.ifCond .ne 8, 3) := by decide +kernel
theorem dX8_use_8 : decode cX8_use 8 = .ok (.aload_n 0, 1) := by decide +kernel
theorem dX8_use_9 : decode cX8_use 9 = .ok (.invokevirtual 59, 3) := by decide +kernel
theorem dX8_use_12 : decode cX8_use 12 = .ok (.ireturn, 1) := by decide +kernel
theorem dX8_use_13 : decode cX8_use 13 = .ok (.aload_n 0, 1) := by decide +kernel
theorem dX8_use_14 : decode cX8_use 14 = .ok (.invokevirtual 87, 3) := by decide +kernel
theorem dX8_use_17 : decode cX8_use 17 = .ok (.aload_n 0, 1) := by decide +kernel
theorem dX8_use_18 : decode cX8_use 18 = .ok (.iload_n 1, 1) := by decide +kernel
theorem dX8_use_19 : decode cX8_use 19 = .ok (.invokevirtual 102, 3) := by decide +kernel
theorem dX8_use_22 : decode cX8_use 22 = .ok (.ireturn, 1) := by decide +kernel
set_option maxRecDepth 20000 in
theorem ggX8_score_X8_isThere : GoodIn wsX8_score wsX8_isThere := goodIn_r _ [6, 1, 7, 8, 5, 9, 24, 25, 26, 27, 28, 29, 30, 31, 32, 33, 34, 35, 36, 37, 38, 39, 40, 41] (by decide +kernel) (by decide +kernel)
set_option maxRecDepth 20000 in
theorem gX8_score_X8_isThere : GoodIn wsX8_score (wsV RX8 68 RX8 yX8_isThere wsX8_isThere) := goodIn_app (goodIn_of _ (by decide +kernel)) ggX8_score_X8_isThere
set_option maxRecDepth 20000 in
theorem ggX8_score_X8_in : GoodIn wsX8_score wsX8_in := goodIn_r _ [9] (by decide +kernel) (by decide +kernel)
set_option maxRecDepth 20000 in
theorem gX8_score_X8_in : GoodIn wsX8_score (va_wsS RX8 42 yX8_in wsX8_in) := goodIn_app (goodIn_of _ (by decide +kernel)) ggX8_score_X8_in
set_option maxRecDepth 20000 in
theorem ggX8_score_X8_bad : GoodIn wsX8_score wsX8_bad := goodIn_r _ [13, 14, 24, 25, 26, 27, 28, 29, 30, 31, 32, 33, 34, 35, 36, 37, 38, 39, 40, 41] (by decide +kernel) (by decide +kernel)
set_option maxRecDepth 20000 in
theorem gX8_score_X8_bad : GoodIn wsX8_score (wsV RX8 59 RX8 yX8_bad wsX8_bad) := goodIn_app (goodIn_of _ (by decide +kernel)) ggX8_score_X8_bad
set_option maxRecDepth 20000 in
theorem ggX8_score_X8_notes : GoodIn wsX8_score wsX8_notes := goodIn_r _ [18, 19, 20, 1, 21, 22, 5, 23, 24, 25, 26, 27, 28, 29, 30, 31, 32, 33, 34, 35, 36, 37, 38, 39, 40, 41] (by decide +kernel) (by decide +kernel)
set_option maxRecDepth 20000 in
theorem gX8_score_X8_notes : GoodIn wsX8_score (wsV RX8 87 RX8 yX8_notes wsX8_notes) := goodIn_app (goodIn_of _ (by decide +kernel)) ggX8_score_X8_notes
theorem dX8_score_0 : decode cX8_score 0 = .ok (.aload_n 0, 1) := by decide +kernel
theorem dX8_score_1 : decode cX8_score 1 = .ok (.iload_n 1, 1) := by decide +kernel
theorem dX8_score_2 : decode cX8_score 2 = .ok (.invokevirtual 68, 3) := by decide +kernel
theorem dX8_score_5 : decode cX8_score 5 = .ok (.ifCond .eq 14, 3) := by decide +kernel
theorem dX8_score_8 : decode cX8_score 8 = .ok (.iload_n 2, 1) := by decide +kernel
theorem dX8_score_9 : decode cX8_score 9 = .ok (.iconst 0, 1) := by decide +kernel
theorem dX8_score_10 : decode cX8_score 10 = .ok (.sipush 1000, 3) := by decide +kernel
theorem dX8_score_13 : decode cX8_score 13 = .ok (.invokestatic 42, 3) := by decide +kernel
theorem dX8_score_16 : decode cX8_score 16 = .ok (.ifCond .ne 8, 3) := by decide +kernel
theorem dX8_score_19 : decode cX8_score 19 = .ok (.aload_n 0, 1) := by decide +kernel
theorem dX8_score_20 : decode cX8_score 20 = .ok (.invokevirtual 59, 3) := by decide +kernel
theorem dX8_score_23 : decode cX8_score 23 = .ok (.ireturn, 1) := by decide +kernel
theorem dX8_score_24 : decode cX8_score 24 = .ok (.aload_n 0, 1) := by decide +kernel
theorem dX8_score_25 : decode cX8_score 25 = .ok (.invokevirtual 87, 3) := by decide +kernel
theorem dX8_score_28 : decode cX8_score 28 = .ok (.aload_n 0, 1) := by decide +kernel
theorem dX8_score_29 : decode cX8_score 29 = .ok (.getfield 7, 3) := by decide +kernel
theorem dX8_score_32 : decode cX8_score 32 = .ok (.bipush 14, 2) := by decide +kernel
theorem dX8_score_34 : decode cX8_score 34 = .ok (.iload_n 1, 1) := by decide +kernel
theorem dX8_score_35 : decode cX8_score 35 = .ok (.imul, 1) := by decide +kernel
theorem dX8_score_36 : decode cX8_score 36 = .ok (.iconst 1, 1) := by decide +kernel
theorem dX8_score_37 : decode cX8_score 37 = .ok (.iadd, 1) := by decide +kernel
theorem dX8_score_38 : decode cX8_score 38 = .ok (.iaload, 1) := by decide +kernel
theorem dX8_score_39 : decode cX8_score 39 = .ok (.istore_n 3, 1) := by decide +kernel
theorem dX8_score_40 : decode cX8_score 40 = .ok (.aload_n 0, 1) := by decide +kernel
theorem dX8_score_41 : decode cX8_score 41 = .ok (.getfield 7, 3) := by decide +kernel
theorem dX8_score_44 : decode cX8_score 44 = .ok (.bipush 14, 2) := by decide +kernel
theorem dX8_score_46 : decode cX8_score 46 = .ok (.iload_n 1, 1) := by decide +kernel
theorem dX8_score_47 : decode cX8_score 47 = .ok (.imul, 1) := by decide +kernel
theorem dX8_score_48 : decode cX8_score 48 = .ok (.iconst 1, 1) := by decide +kernel
theorem dX8_score_49 : decode cX8_score 49 = .ok (.iadd, 1) := by decide +kernel
theorem dX8_score_50 : decode cX8_score 50 = .ok (.iload_n 2, 1) := by decide +kernel
theorem dX8_score_51 : decode cX8_score 51 = .ok (.iastore, 1) := by decide +kernel
theorem dX8_score_52 : decode cX8_score 52 = .ok (.iload_n 3, 1) := by decide +kernel
theorem dX8_score_53 : decode cX8_score 53 = .ok (.ireturn, 1) := by decide +kernel
set_option maxRecDepth 20000 in
theorem ggX8_drop_X8_isThere : GoodIn wsX8_drop wsX8_isThere := goodIn_r _ [6, 1, 7, 8, 5, 9, 24, 25, 26, 27, 28, 29, 30, 31, 32, 33, 34, 35, 36, 37, 38, 39, 40, 41] (by decide +kernel) (by decide +kernel)
set_option maxRecDepth 20000 in
theorem gX8_drop_X8_isThere : GoodIn wsX8_drop (wsV RX8 68 RX8 yX8_isThere wsX8_isThere) := goodIn_app (goodIn_of _ (by decide +kernel)) ggX8_drop_X8_isThere
set_option maxRecDepth 20000 in
theorem ggX8_drop_X8_bad : GoodIn wsX8_drop wsX8_bad := goodIn_r _ [13, 14, 24, 25, 26, 27, 28, 29, 30, 31, 32, 33, 34, 35, 36, 37, 38, 39, 40, 41] (by decide +kernel) (by decide +kernel)
set_option maxRecDepth 20000 in
theorem gX8_drop_X8_bad : GoodIn wsX8_drop (wsV RX8 59 RX8 yX8_bad wsX8_bad) := goodIn_app (goodIn_of _ (by decide +kernel)) ggX8_drop_X8_bad
set_option maxRecDepth 20000 in
theorem ggX8_drop_X8_notes : GoodIn wsX8_drop wsX8_notes := goodIn_r _ [18, 19, 20, 1, 21, 22, 5, 23, 24, 25, 26, 27, 28, 29, 30, 31, 32, 33, 34, 35, 36, 37, 38, 39, 40, 41] (by decide +kernel) (by decide +kernel)
set_option maxRecDepth 20000 in
theorem gX8_drop_X8_notes : GoodIn wsX8_drop (wsV RX8 87 RX8 yX8_notes wsX8_notes) := goodIn_app (goodIn_of _ (by decide +kernel)) ggX8_drop_X8_notes
theorem dX8_drop_0 : decode cX8_drop 0 = .ok (.aload_n 0, 1) := by decide +kernel
theorem dX8_drop_1 : decode cX8_drop 1 = .ok (.iload_n 1, 1) := by decide +kernel
theorem dX8_drop_2 : decode cX8_drop 2 = .ok (.invokevirtual 68, 3) := by decide +kernel
theorem dX8_drop_5 : decode cX8_drop 5 = .ok (.ifCond .ne 8, 3) := by decide +kernel
theorem dX8_drop_8 : decode cX8_drop 8 = .ok (.aload_n 0, 1) := by decide +kernel
theorem dX8_drop_9 : decode cX8_drop 9 = .ok (.invokevirtual 59, 3) := by decide +kernel
theorem dX8_drop_12 : decode cX8_drop 12 = .ok (.ireturn, 1) := by decide +kernel
theorem dX8_drop_13 : decode cX8_drop 13 = .ok (.aload_n 0, 1) := by decide +kernel
theorem dX8_drop_14 : decode cX8_drop 14 = .ok (.invokevirtual 87, 3) := by decide +kernel
theorem dX8_drop_17 : decode cX8_drop 17 = .ok (.aload_n 0, 1) := by decide +kernel
theorem dX8_drop_18 : decode cX8_drop 18 = .ok (.getfield 7, 3) := by decide +kernel
theorem dX8_drop_21 : decode cX8_drop 21 = .ok (.bipush 14, 2) := by decide +kernel
theorem dX8_drop_23 : decode cX8_drop 23 = .ok (.iload_n 1, 1) := by decide +kernel
theorem dX8_drop_24 : decode cX8_drop 24 = .ok (.imul, 1) := by decide +kernel
theorem dX8_drop_25 : decode cX8_drop 25 = .ok (.iconst 0, 1) := by decide +kernel
theorem dX8_drop_26 : decode cX8_drop 26 = .ok (.iastore, 1) := by decide +kernel
theorem dX8_drop_27 : decode cX8_drop 27 = .ok (.aload_n 0, 1) := by decide +kernel
theorem dX8_drop_28 : decode cX8_drop 28 = .ok (.getfield 7, 3) := by decide +kernel
theorem dX8_drop_31 : decode cX8_drop 31 = .ok (.bipush 14, 2) := by decide +kernel
theorem dX8_drop_33 : decode cX8_drop 33 = .ok (.iload_n 1, 1) := by decide +kernel
theorem dX8_drop_34 : decode cX8_drop 34 = .ok (.imul, 1) := by decide +kernel
theorem dX8_drop_35 : decode cX8_drop 35 = .ok (.iconst 1, 1) := by decide +kernel
theorem dX8_drop_36 : decode cX8_drop 36 = .ok (.iadd, 1) := by decide +kernel
theorem dX8_drop_37 : decode cX8_drop 37 = .ok (.iaload, 1) := by decide +kernel
theorem dX8_drop_38 : decode cX8_drop 38 = .ok (.ireturn, 1) := by decide +kernel
set_option maxRecDepth 20000 in
theorem ggX8_rank_X8_in : GoodIn wsX8_rank wsX8_in := goodIn_r _ [5] (by decide +kernel) (by decide +kernel)
set_option maxRecDepth 20000 in
theorem gX8_rank_X8_in : GoodIn wsX8_rank (va_wsS RX8 42 yX8_in wsX8_in) := goodIn_app (goodIn_of _ (by decide +kernel)) ggX8_rank_X8_in
set_option maxRecDepth 20000 in
theorem ggX8_rank_X8_bad : GoodIn wsX8_rank wsX8_bad := goodIn_r _ [9, 10, 20, 21, 22, 23, 24, 25, 26, 27, 28, 29, 30, 31, 32, 33, 34, 35, 36, 37] (by decide +kernel) (by decide +kernel)
set_option maxRecDepth 20000 in
theorem gX8_rank_X8_bad : GoodIn wsX8_rank (wsV RX8 59 RX8 yX8_bad wsX8_bad) := goodIn_app (goodIn_of _ (by decide +kernel)) ggX8_rank_X8_bad
set_option maxRecDepth 20000 in
theorem ggX8_rank_X8_notes : GoodIn wsX8_rank wsX8_notes := goodIn_r _ [14, 15, 16, 1, 17, 18, 4, 19, 20, 21, 22, 23, 24, 25, 26, 27, 28, 29, 30, 31, 32, 33, 34, 35, 36, 37] (by decide +kernel) (by decide +kernel)
set_option maxRecDepth 20000 in
theorem gX8_rank_X8_notes : GoodIn wsX8_rank (wsV RX8 87 RX8 yX8_notes wsX8_notes) := goodIn_app (goodIn_of _ (by decide +kernel)) ggX8_rank_X8_notes
theorem dX8_rank_0 : decode cX8_rank 0 = .ok (.iload_n 1, 1) := by decide +kernel
theorem dX8_rank_1 : decode cX8_rank 1 = .ok (.iconst 0, 1) := by decide +kernel
theorem dX8_rank_2 : decode cX8_rank 2 = .ok (.iconst 4, 1) := by decide +kernel
theorem dX8_rank_3 : decode cX8_rank 3 = .ok (.invokestatic 42, 3) := by decide +kernel
theorem dX8_rank_6 : decode cX8_rank 6 = .ok (.ifCond .ne 8, 3) := by decide +kernel
theorem dX8_rank_9 : decode cX8_rank 9 = .ok (.aload_n 0, 1) := by decide +kernel
theorem dX8_rank_10 : decode cX8_rank 10 = .ok (.invokevirtual 59, 3) := by decide +kernel
theorem dX8_rank_13 : decode cX8_rank 13 = .ok (.ireturn, 1) := by decide +kernel
theorem dX8_rank_14 : decode cX8_rank 14 = .ok (.aload_n 0, 1) := by decide +kernel
theorem dX8_rank_15 : decode cX8_rank 15 = .ok (.invokevirtual 87, 3) := by decide +kernel
theorem dX8_rank_18 : decode cX8_rank 18 = .ok (.aload_n 0, 1) := by decide +kernel
theorem dX8_rank_19 : decode cX8_rank 19 = .ok (.getfield 7, 3) := by decide +kernel
theorem dX8_rank_22 : decode cX8_rank 22 = .ok (.sipush 2801, 3) := by decide +kernel
theorem dX8_rank_25 : decode cX8_rank 25 = .ok (.iaload, 1) := by decide +kernel
theorem dX8_rank_26 : decode cX8_rank 26 = .ok (.istore_n 2, 1) := by decide +kernel
theorem dX8_rank_27 : decode cX8_rank 27 = .ok (.aload_n 0, 1) := by decide +kernel
theorem dX8_rank_28 : decode cX8_rank 28 = .ok (.getfield 7, 3) := by decide +kernel
theorem dX8_rank_31 : decode cX8_rank 31 = .ok (.sipush 2801, 3) := by decide +kernel
theorem dX8_rank_34 : decode cX8_rank 34 = .ok (.iload_n 1, 1) := by decide +kernel
theorem dX8_rank_35 : decode cX8_rank 35 = .ok (.iastore, 1) := by decide +kernel
theorem dX8_rank_36 : decode cX8_rank 36 = .ok (.iload_n 2, 1) := by decide +kernel
theorem dX8_rank_37 : decode cX8_rank 37 = .ok (.ireturn, 1) := by decide +kernel
set_option maxRecDepth 20000 in
theorem ggX8_slip_X8_in : GoodIn wsX8_slip wsX8_in := goodIn_r _ [5] (by decide +kernel) (by decide +kernel)
set_option maxRecDepth 20000 in
theorem gX8_slip_X8_in : GoodIn wsX8_slip (va_wsS RX8 42 yX8_in wsX8_in) := goodIn_app (goodIn_of _ (by decide +kernel)) ggX8_slip_X8_in
set_option maxRecDepth 20000 in
theorem ggX8_slip_X8_bad : GoodIn wsX8_slip wsX8_bad := goodIn_r _ [9, 10, 20, 21, 22, 23, 24, 25, 26, 27, 28, 29, 30, 31, 32, 33, 34, 35, 36, 37] (by decide +kernel) (by decide +kernel)
set_option maxRecDepth 20000 in
theorem gX8_slip_X8_bad : GoodIn wsX8_slip (wsV RX8 59 RX8 yX8_bad wsX8_bad) := goodIn_app (goodIn_of _ (by decide +kernel)) ggX8_slip_X8_bad
set_option maxRecDepth 20000 in
theorem ggX8_slip_X8_notes : GoodIn wsX8_slip wsX8_notes := goodIn_r _ [14, 15, 16, 1, 17, 18, 4, 19, 20, 21, 22, 23, 24, 25, 26, 27, 28, 29, 30, 31, 32, 33, 34, 35, 36, 37] (by decide +kernel) (by decide +kernel)
set_option maxRecDepth 20000 in
theorem gX8_slip_X8_notes : GoodIn wsX8_slip (wsV RX8 87 RX8 yX8_notes wsX8_notes) := goodIn_app (goodIn_of _ (by decide +kernel)) ggX8_slip_X8_notes
theorem dX8_slip_0 : decode cX8_slip 0 = .ok (.iload_n 1, 1) := by decide +kernel
theorem dX8_slip_1 : decode cX8_slip 1 = .ok (.iconst 0, 1) := by decide +kernel
theorem dX8_slip_2 : decode cX8_slip 2 = .ok (.sipush 1000, 3) := by decide +kernel
theorem dX8_slip_5 : decode cX8_slip 5 = .ok (.invokestatic 42, 3) := by decide +kernel
theorem dX8_slip_8 : decode cX8_slip 8 = .ok (.ifCond .ne 8, 3) := by decide +kernel
theorem dX8_slip_11 : decode cX8_slip 11 = .ok (.aload_n 0, 1) := by decide +kernel
theorem dX8_slip_12 : decode cX8_slip 12 = .ok (.invokevirtual 59, 3) := by decide +kernel
theorem dX8_slip_15 : decode cX8_slip 15 = .ok (.ireturn, 1) := by decide +kernel
theorem dX8_slip_16 : decode cX8_slip 16 = .ok (.aload_n 0, 1) := by decide +kernel
theorem dX8_slip_17 : decode cX8_slip 17 = .ok (.invokevirtual 87, 3) := by decide +kernel
theorem dX8_slip_20 : decode cX8_slip 20 = .ok (.aload_n 0, 1) := by decide +kernel
theorem dX8_slip_21 : decode cX8_slip 21 = .ok (.getfield 7, 3) := by decide +kernel
theorem dX8_slip_24 : decode cX8_slip 24 = .ok (.sipush 2802, 3) := by decide +kernel
theorem dX8_slip_27 : decode cX8_slip 27 = .ok (.iaload, 1) := by decide +kernel
theorem dX8_slip_28 : decode cX8_slip 28 = .ok (.istore_n 2, 1) := by decide +kernel
theorem dX8_slip_29 : decode cX8_slip 29 = .ok (.aload_n 0, 1) := by decide +kernel
theorem dX8_slip_30 : decode cX8_slip 30 = .ok (.getfield 7, 3) := by decide +kernel
theorem dX8_slip_33 : decode cX8_slip 33 = .ok (.sipush 2802, 3) := by decide +kernel
theorem dX8_slip_36 : decode cX8_slip 36 = .ok (.iload_n 1, 1) := by decide +kernel
theorem dX8_slip_37 : decode cX8_slip 37 = .ok (.iastore, 1) := by decide +kernel
theorem dX8_slip_38 : decode cX8_slip 38 = .ok (.iload_n 2, 1) := by decide +kernel
theorem dX8_slip_39 : decode cX8_slip 39 = .ok (.ireturn, 1) := by decide +kernel
theorem dX8_halves_0 : decode cX8_halves 0 = .ok (.iconst 0, 1) := by decide +kernel
theorem dX8_halves_1 : decode cX8_halves 1 = .ok (.istore_n 1, 1) := by decide +kernel
theorem dX8_halves_2 : decode cX8_halves 2 = .ok (.iload_n 1, 1) := by decide +kernel
theorem dX8_halves_3 : decode cX8_halves 3 = .ok (.aload_n 0, 1) := by decide +kernel
theorem dX8_halves_4 : decode cX8_halves 4 = .ok (.getfield 7, 3) := by decide +kernel
theorem dX8_halves_7 : decode cX8_halves 7 = .ok (.sipush 2800, 3) := by decide +kernel
theorem dX8_halves_10 : decode cX8_halves 10 = .ok (.iaload, 1) := by decide +kernel
theorem dX8_halves_11 : decode cX8_halves 11 = .ok (.if_icmp .ge 24, 3) := by decide +kernel
theorem dX8_halves_14 : decode cX8_halves 14 = .ok (.aload_n 0, 1) := by decide +kernel
theorem dX8_halves_15 : decode cX8_halves 15 = .ok (.getfield 7, 3) := by decide +kernel
theorem dX8_halves_18 : decode cX8_halves 18 = .ok (.bipush 14, 2) := by decide +kernel
theorem dX8_halves_20 : decode cX8_halves 20 = .ok (.iload_n 1, 1) := by decide +kernel
theorem dX8_halves_21 : decode cX8_halves 21 = .ok (.imul, 1) := by decide +kernel
theorem dX8_halves_22 : decode cX8_halves 22 = .ok (.iconst 1, 1) := by decide +kernel
theorem dX8_halves_23 : decode cX8_halves 23 = .ok (.iadd, 1) := by decide +kernel
theorem dX8_halves_24 : decode cX8_halves 24 = .ok (.dup2, 1) := by decide +kernel
theorem dX8_halves_25 : decode cX8_halves 25 = .ok (.iaload, 1) := by decide +kernel
theorem dX8_halves_26 : decode cX8_halves 26 = .ok (.iconst 2, 1) := by decide +kernel
theorem dX8_halves_27 : decode cX8_halves 27 = .ok (.idiv, 1) := by decide +kernel
theorem dX8_halves_28 : decode cX8_halves 28 = .ok (.iastore, 1) := by decide +kernel
theorem dX8_halves_29 : decode cX8_halves 29 = .ok (.iinc 1 1, 3) := by decide +kernel
theorem dX8_halves_32 : decode cX8_halves 32 = .ok (.goto (-30), 3) := by decide +kernel
theorem dX8_halves_35 : decode cX8_halves 35 = .ok (.return_, 1) := by decide +kernel
set_option maxRecDepth 20000 in
theorem ggX8_fades_X8_notes : GoodIn wsX8_fades wsX8_notes := goodIn_r _ [5, 6, 7, 8, 9, 10, 4, 11, 20, 21, 22, 23, 24, 25, 26, 27, 28, 29, 30, 31, 32, 33, 34, 35, 36, 37] (by decide +kernel) (by decide +kernel)
set_option maxRecDepth 20000 in
theorem gX8_fades_X8_notes : GoodIn wsX8_fades (wsV RX8 87 RX8 yX8_notes wsX8_notes) := goodIn_app (goodIn_of _ (by decide +kernel)) ggX8_fades_X8_notes
set_option maxRecDepth 20000 in
theorem ggX8_fades_X8_halves : GoodIn wsX8_fades wsX8_halves := goodIn_r _ [15, 8, 20, 21, 22, 23, 24, 25, 26, 27, 28, 29, 30, 31, 32, 33, 34, 35, 36, 37] (by decide +kernel) (by decide +kernel)
set_option maxRecDepth 20000 in
theorem gX8_fades_X8_halves : GoodIn wsX8_fades (wsV RX8 105 RX8 yX8_halves wsX8_halves) := goodIn_app (goodIn_of _ (by decide +kernel)) ggX8_fades_X8_halves
set_option maxRecDepth 20000 in
theorem ggX8_fades_X8_many : GoodIn wsX8_fades wsX8_many := goodIn_r _ [19, 8, 20, 21, 22, 23, 24, 25, 26, 27, 28, 29, 30, 31, 32, 33, 34, 35, 36, 37] (by decide +kernel) (by decide +kernel)
set_option maxRecDepth 20000 in
theorem gX8_fades_X8_many : GoodIn wsX8_fades (wsV RX8 76 RX8 yX8_many wsX8_many) := goodIn_app (goodIn_of _ (by decide +kernel)) ggX8_fades_X8_many
theorem dX8_fades_0 : decode cX8_fades 0 = .ok (.aload_n 0, 1) := by decide +kernel
theorem dX8_fades_1 : decode cX8_fades 1 = .ok (.invokevirtual 87, 3) := by decide +kernel
theorem dX8_fades_4 : decode cX8_fades 4 = .ok (.aload_n 0, 1) := by decide +kernel
theorem dX8_fades_5 : decode cX8_fades 5 = .ok (.invokevirtual 105, 3) := by decide +kernel
theorem dX8_fades_8 : decode cX8_fades 8 = .ok (.aload_n 0, 1) := by decide +kernel
theorem dX8_fades_9 : decode cX8_fades 9 = .ok (.invokevirtual 76, 3) := by decide +kernel
theorem dX8_fades_12 : decode cX8_fades 12 = .ok (.ireturn, 1) := by decide +kernel
theorem dX8_draws_0 : decode cX8_draws 0 = .ok (.aload_n 0, 1) := by decide +kernel
theorem dX8_draws_1 : decode cX8_draws 1 = .ok (.aload_n 0, 1) := by decide +kernel
theorem dX8_draws_2 : decode cX8_draws 2 = .ok (.getfield 108, 3) := by decide +kernel
theorem dX8_draws_5 : decode cX8_draws 5 = .ok (.ldc2_w 112, 3) := by decide +kernel
theorem dX8_draws_8 : decode cX8_draws 8 = .ok (.lmul, 1) := by decide +kernel
theorem dX8_draws_9 : decode cX8_draws 9 = .ok (.ldc2_w 114, 3) := by decide +kernel
theorem dX8_draws_12 : decode cX8_draws 12 = .ok (.ladd, 1) := by decide +kernel
theorem dX8_draws_13 : decode cX8_draws 13 = .ok (.ldc2_w 116, 3) := by decide +kernel
theorem dX8_draws_16 : decode cX8_draws 16 = .ok (.lrem, 1) := by decide +kernel
theorem dX8_draws_17 : decode cX8_draws 17 = .ok (.putfield 108, 3) := by decide +kernel
theorem dX8_draws_20 : decode cX8_draws 20 = .ok (.return_, 1) := by decide +kernel
set_option maxRecDepth 20000 in
theorem ggX8_draw_X8_in : GoodIn wsX8_draw wsX8_in := goodIn_r _ [13] (by decide +kernel) (by decide +kernel)
set_option maxRecDepth 20000 in
theorem gX8_draw_X8_in : GoodIn wsX8_draw (va_wsS RX8 42 yX8_in wsX8_in) := goodIn_app (goodIn_of _ (by decide +kernel)) ggX8_draw_X8_in
set_option maxRecDepth 20000 in
theorem ggX8_draw_X8_bad : GoodIn wsX8_draw wsX8_bad := goodIn_r _ [17, 18, 52, 53, 54, 55, 56, 57, 58, 59, 60, 61, 62, 63, 64, 65, 66, 67, 68, 69] (by decide +kernel) (by decide +kernel)
set_option maxRecDepth 20000 in
theorem gX8_draw_X8_bad : GoodIn wsX8_draw (wsV RX8 59 RX8 yX8_bad wsX8_bad) := goodIn_app (goodIn_of _ (by decide +kernel)) ggX8_draw_X8_bad
set_option maxRecDepth 20000 in
theorem ggX8_draw_X8_notes : GoodIn wsX8_draw wsX8_notes := goodIn_r _ [22, 23, 24, 25, 26, 27, 12, 28, 52, 53, 54, 55, 56, 57, 58, 59, 60, 61, 62, 63, 64, 65, 66, 67, 68, 69] (by decide +kernel) (by decide +kernel)
set_option maxRecDepth 20000 in
theorem gX8_draw_X8_notes : GoodIn wsX8_draw (wsV RX8 87 RX8 yX8_notes wsX8_notes) := goodIn_app (goodIn_of _ (by decide +kernel)) ggX8_draw_X8_notes
set_option maxRecDepth 20000 in
theorem ggX8_draw_X8_draws : GoodIn wsX8_draw wsX8_draws := goodIn_r _ [32, 2, 33, 34, 35, 52, 53, 54, 55, 56, 57, 58, 59, 60, 61, 62, 63, 64, 65, 66, 67, 68, 69] (by decide +kernel) (by decide +kernel)
set_option maxRecDepth 20000 in
theorem gX8_draw_X8_draws : GoodIn wsX8_draw (wsV RX8 119 RX8 yX8_draws wsX8_draws) := goodIn_app (goodIn_of _ (by decide +kernel)) ggX8_draw_X8_draws
set_option maxRecDepth 20000 in
theorem ggX8_draw_X8_foundBy : GoodIn wsX8_draw wsX8_foundBy := goodIn_r _ [39, 25, 52, 53, 54, 55, 56, 57, 58, 59, 60, 61, 62, 63, 64, 65, 66, 67, 68, 69] (by decide +kernel) (by decide +kernel)
set_option maxRecDepth 20000 in
theorem gX8_draw_X8_foundBy : GoodIn wsX8_draw (wsV RX8 79 RX8 yX8_foundBy wsX8_foundBy) := goodIn_app (goodIn_of _ (by decide +kernel)) ggX8_draw_X8_foundBy
set_option maxRecDepth 20000 in
theorem ggX8_draw_X8_mayCome : GoodIn wsX8_draw wsX8_mayCome := goodIn_r _ [43, 25, 44, 45, 46, 12, 47, 52, 53, 54, 55, 56, 57, 58, 59, 60, 61, 62, 63, 64, 65, 66, 67, 68, 69] (by decide +kernel) (by decide +kernel)
set_option maxRecDepth 20000 in
theorem gX8_draw_X8_mayCome : GoodIn wsX8_draw (wsV RX8 83 RX8 yX8_mayCome wsX8_mayCome) := goodIn_app (goodIn_of _ (by decide +kernel)) ggX8_draw_X8_mayCome
set_option maxRecDepth 20000 in
theorem ggX8_draw_X8_comes : GoodIn wsX8_draw wsX8_comes := goodIn_r _ [51, 25, 26, 27, 12, 28, 52, 53, 54, 55, 56, 57, 58, 59, 60, 61, 62, 63, 64, 65, 66, 67, 68, 69] (by decide +kernel) (by decide +kernel)
set_option maxRecDepth 20000 in
theorem gX8_draw_X8_comes : GoodIn wsX8_draw (wsV RX8 90 RX8 yX8_comes wsX8_comes) := goodIn_app (goodIn_of _ (by decide +kernel)) ggX8_draw_X8_comes
theorem dX8_draw_0 : decode cX8_draw 0 = .ok (.iload_n 1, 1) := by decide +kernel
theorem dX8_draw_1 : decode cX8_draw 1 = .ok (.iconst 0, 1) := by decide +kernel
theorem dX8_draw_2 : decode cX8_draw 2 = .ok (.ldc 118, 2) := by decide +kernel
theorem dX8_draw_4 : decode cX8_draw 4 = .ok (.invokestatic 42, 3) := by decide +kernel
theorem dX8_draw_7 : decode cX8_draw 7 = .ok (.ifCond .eq 13, 3) := by decide +kernel
theorem dX8_draw_10 : decode cX8_draw 10 = .ok (.iload_n 2, 1) := by decide +kernel
theorem dX8_draw_11 : decode cX8_draw 11 = .ok (.iconst 1, 1) := by decide +kernel
theorem dX8_draw_12 : decode cX8_draw 12 = .ok (.bipush 9, 2) := by decide +kernel
theorem dX8_draw_14 : decode cX8_draw 14 = .ok (.invokestatic 42, 3) := by decide +kernel
theorem dX8_draw_17 : decode cX8_draw 17 = .ok (.ifCond .ne 8, 3) := by decide +kernel
theorem dX8_draw_20 : decode cX8_draw 20 = .ok (.aload_n 0, 1) := by decide +kernel
theorem dX8_draw_21 : decode cX8_draw 21 = .ok (.invokevirtual 59, 3) := by decide +kernel
theorem dX8_draw_24 : decode cX8_draw 24 = .ok (.ireturn, 1) := by decide +kernel
theorem dX8_draw_25 : decode cX8_draw 25 = .ok (.aload_n 0, 1) := by decide +kernel
theorem dX8_draw_26 : decode cX8_draw 26 = .ok (.invokevirtual 87, 3) := by decide +kernel
theorem dX8_draw_29 : decode cX8_draw 29 = .ok (.aload_n 0, 1) := by decide +kernel
theorem dX8_draw_30 : decode cX8_draw 30 = .ok (.iload_n 1, 1) := by decide +kernel
theorem dX8_draw_31 : decode cX8_draw 31 = .ok (.i2l, 1) := by decide +kernel
theorem dX8_draw_32 : decode cX8_draw 32 = .ok (.putfield 108, 3) := by decide +kernel
theorem dX8_draw_35 : decode cX8_draw 35 = .ok (.iconst 0, 1) := by decide +kernel
theorem dX8_draw_36 : decode cX8_draw 36 = .ok (.istore_n 3, 1) := by decide +kernel
theorem dX8_draw_37 : decode cX8_draw 37 = .ok (.iconst 0, 1) := by decide +kernel
theorem dX8_draw_38 : decode cX8_draw 38 = .ok (.istore 4, 2) := by decide +kernel
theorem dX8_draw_40 : decode cX8_draw 40 = .ok (.iload 4, 2) := by decide +kernel
theorem dX8_draw_42 : decode cX8_draw 42 = .ok (.iload_n 2, 1) := by decide +kernel
theorem dX8_draw_43 : decode cX8_draw 43 = .ok (.if_icmp .ge 135, 3) := by decide +kernel
theorem dX8_draw_46 : decode cX8_draw 46 = .ok (.aload_n 0, 1) := by decide +kernel
theorem dX8_draw_47 : decode cX8_draw 47 = .ok (.invokevirtual 119, 3) := by decide +kernel
theorem dX8_draw_50 : decode cX8_draw 50 = .ok (.aload_n 0, 1) := by decide +kernel
theorem dX8_draw_51 : decode cX8_draw 51 = .ok (.getfield 108, 3) := by decide +kernel
theorem dX8_draw_54 : decode cX8_draw 54 = .ok (.ldc2_w 122, 3) := by decide +kernel
theorem dX8_draw_57 : decode cX8_draw 57 = .ok (.ldiv, 1) := by decide +kernel
theorem dX8_draw_58 : decode cX8_draw 58 = .ok (.ldc2_w 124, 3) := by decide +kernel
theorem dX8_draw_61 : decode cX8_draw 61 = .ok (.lrem, 1) := by decide +kernel
theorem dX8_draw_62 : decode cX8_draw 62 = .ok (.l2i, 1) := by decide +kernel
theorem dX8_draw_63 : decode cX8_draw 63 = .ok (.iconst 1, 1) := by decide +kernel
theorem dX8_draw_64 : decode cX8_draw 64 = .ok (.iadd, 1) := by decide +kernel
theorem dX8_draw_65 : decode cX8_draw 65 = .ok (.istore 5, 2) := by decide +kernel
theorem dX8_draw_67 : decode cX8_draw 67 = .ok (.iconst 0, 1) := by decide +kernel
theorem dX8_draw_68 : decode cX8_draw 68 = .ok (.istore 6, 2) := by decide +kernel
theorem dX8_draw_70 : decode cX8_draw 70 = .ok (.iload 6, 2) := by decide +kernel
theorem dX8_draw_72 : decode cX8_draw 72 = .ok (.iload 5, 2) := by decide +kernel
theorem dX8_draw_74 : decode cX8_draw 74 = .ok (.if_icmp .ge 33, 3) := by decide +kernel
theorem dX8_draw_77 : decode cX8_draw 77 = .ok (.aload_n 0, 1) := by decide +kernel
theorem dX8_draw_78 : decode cX8_draw 78 = .ok (.invokevirtual 119, 3) := by decide +kernel
theorem dX8_draw_81 : decode cX8_draw 81 = .ok (.aload_n 0, 1) := by decide +kernel
theorem dX8_draw_82 : decode cX8_draw 82 = .ok (.getfield 26, 3) := by decide +kernel
theorem dX8_draw_85 : decode cX8_draw 85 = .ok (.iload 6, 2) := by decide +kernel
theorem dX8_draw_87 : decode cX8_draw 87 = .ok (.aload_n 0, 1) := by decide +kernel
theorem dX8_draw_88 : decode cX8_draw 88 = .ok (.getfield 108, 3) := by decide +kernel
theorem dX8_draw_91 : decode cX8_draw 91 = .ok (.ldc2_w 122, 3) := by decide +kernel
theorem dX8_draw_94 : decode cX8_draw 94 = .ok (.ldiv, 1) := by decide +kernel
theorem dX8_draw_95 : decode cX8_draw 95 = .ok (.ldc2_w 126, 3) := by decide +kernel
theorem dX8_draw_98 : decode cX8_draw 98 = .ok (.lrem, 1) := by decide +kernel
theorem dX8_draw_99 : decode cX8_draw 99 = .ok (.l2i, 1) := by decide +kernel
theorem dX8_draw_100 : decode cX8_draw 100 = .ok (.iastore, 1) := by decide +kernel
theorem dX8_draw_101 : decode cX8_draw 101 = .ok (.iinc 6 1, 3) := by decide +kernel
theorem dX8_draw_104 : decode cX8_draw 104 = .ok (.goto (-34), 3) := by decide +kernel
theorem dX8_draw_107 : decode cX8_draw 107 = .ok (.aload_n 0, 1) := by decide +kernel
theorem dX8_draw_108 : decode cX8_draw 108 = .ok (.invokevirtual 119, 3) := by decide +kernel
theorem dX8_draw_111 : decode cX8_draw 111 = .ok (.aload_n 0, 1) := by decide +kernel
theorem dX8_draw_112 : decode cX8_draw 112 = .ok (.aload_n 0, 1) := by decide +kernel
theorem dX8_draw_113 : decode cX8_draw 113 = .ok (.getfield 26, 3) := by decide +kernel
theorem dX8_draw_116 : decode cX8_draw 116 = .ok (.iload 5, 2) := by decide +kernel
theorem dX8_draw_118 : decode cX8_draw 118 = .ok (.invokevirtual 79, 3) := by decide +kernel
theorem dX8_draw_121 : decode cX8_draw 121 = .ok (.iconst (-1), 1) := by decide +kernel
theorem dX8_draw_122 : decode cX8_draw 122 = .ok (.if_icmp .ne 50, 3) := by decide +kernel
theorem dX8_draw_125 : decode cX8_draw 125 = .ok (.aload_n 0, 1) := by decide +kernel
theorem dX8_draw_126 : decode cX8_draw 126 = .ok (.invokevirtual 83, 3) := by decide +kernel
theorem dX8_draw_129 : decode cX8_draw 129 = .ok (.ifCond .eq 43, 3) := by decide +kernel
theorem dX8_draw_132 : decode cX8_draw 132 = .ok (.aload_n 0, 1) := by decide +kernel
theorem dX8_draw_133 : decode cX8_draw 133 = .ok (.aload_n 0, 1) := by decide +kernel
theorem dX8_draw_134 : decode cX8_draw 134 = .ok (.getfield 26, 3) := by decide +kernel
theorem dX8_draw_137 : decode cX8_draw 137 = .ok (.iload 5, 2) := by decide +kernel
theorem dX8_draw_139 : decode cX8_draw 139 = .ok (.aload_n 0, 1) := by decide +kernel
theorem dX8_draw_140 : decode cX8_draw 140 = .ok (.getfield 108, 3) := by decide +kernel
theorem dX8_draw_143 : decode cX8_draw 143 = .ok (.ldc2_w 122, 3) := by decide +kernel
theorem dX8_draw_146 : decode cX8_draw 146 = .ok (.ldiv, 1) := by decide +kernel
theorem dX8_draw_147 : decode cX8_draw 147 = .ok (.ldc2_w 128, 3) := by decide +kernel
theorem dX8_draw_150 : decode cX8_draw 150 = .ok (.lrem, 1) := by decide +kernel
theorem dX8_draw_151 : decode cX8_draw 151 = .ok (.l2i, 1) := by decide +kernel
theorem dX8_draw_152 : decode cX8_draw 152 = .ok (.aload_n 0, 1) := by decide +kernel
theorem dX8_draw_153 : decode cX8_draw 153 = .ok (.getfield 108, 3) := by decide +kernel
theorem dX8_draw_156 : decode cX8_draw 156 = .ok (.ldc2_w 130, 3) := by decide +kernel
theorem dX8_draw_159 : decode cX8_draw 159 = .ok (.ldiv, 1) := by decide +kernel
theorem dX8_draw_160 : decode cX8_draw 160 = .ok (.ldc2_w 132, 3) := by decide +kernel
theorem dX8_draw_163 : decode cX8_draw 163 = .ok (.lrem, 1) := by decide +kernel
theorem dX8_draw_164 : decode cX8_draw 164 = .ok (.l2i, 1) := by decide +kernel
theorem dX8_draw_165 : decode cX8_draw 165 = .ok (.invokevirtual 90, 3) := by decide +kernel
theorem dX8_draw_168 : decode cX8_draw 168 = .ok (.pop, 1) := by decide +kernel
theorem dX8_draw_169 : decode cX8_draw 169 = .ok (.iinc 3 1, 3) := by decide +kernel
theorem dX8_draw_172 : decode cX8_draw 172 = .ok (.iinc 4 1, 3) := by decide +kernel
theorem dX8_draw_175 : decode cX8_draw 175 = .ok (.goto (-135), 3) := by decide +kernel
theorem dX8_draw_178 : decode cX8_draw 178 = .ok (.iload_n 3, 1) := by decide +kernel
theorem dX8_draw_179 : decode cX8_draw 179 = .ok (.ireturn, 1) := by decide +kernel
set_option maxRecDepth 20000 in
theorem ggX8_undo_X8_no : GoodIn wsX8_undo wsX8_no := goodIn_r _ [8, 9, 13, 14, 15, 16, 17, 18, 19, 20, 21, 22, 23, 24, 25, 26, 27, 28, 29, 30] (by decide +kernel) (by decide +kernel)
set_option maxRecDepth 20000 in
theorem gX8_undo_X8_no : GoodIn wsX8_undo (wsV RX8 65 RX8 yX8_no wsX8_no) := goodIn_app (goodIn_of _ (by decide +kernel)) ggX8_undo_X8_no
set_option maxRecDepth 20000 in
theorem ggX8_undo_X8_bring : GoodIn wsX8_undo wsX8_bring := goodIn_r _ [12] (by decide +kernel) (by decide +kernel)
set_option maxRecDepth 20000 in
theorem gX8_undo_X8_bring : GoodIn wsX8_undo (va_wsS RX8 72 yX8_bring wsX8_bring) := goodIn_app (goodIn_of _ (by decide +kernel)) ggX8_undo_X8_bring
theorem dX8_undo_0 : decode cX8_undo 0 = .ok (.aload_n 0, 1) := by decide +kernel
theorem dX8_undo_1 : decode cX8_undo 1 = .ok (.getfield 46, 3) := by decide +kernel
theorem dX8_undo_4 : decode cX8_undo 4 = .ok (.ifCond .ne 8, 3) := by decide +kernel
theorem dX8_undo_7 : decode cX8_undo 7 = .ok (.aload_n 0, 1) := by decide +kernel
theorem dX8_undo_8 : decode cX8_undo 8 = .ok (.invokevirtual 65, 3) := by decide +kernel
theorem dX8_undo_11 : decode cX8_undo 11 = .ok (.ireturn, 1) := by decide +kernel
theorem dX8_undo_12 : decode cX8_undo 12 = .ok (.aload_n 0, 1) := by decide +kernel
theorem dX8_undo_13 : decode cX8_undo 13 = .ok (.dup, 1) := by decide +kernel
theorem dX8_undo_14 : decode cX8_undo 14 = .ok (.getfield 46, 3) := by decide +kernel
theorem dX8_undo_17 : decode cX8_undo 17 = .ok (.iconst 1, 1) := by decide +kernel
theorem dX8_undo_18 : decode cX8_undo 18 = .ok (.isub, 1) := by decide +kernel
theorem dX8_undo_19 : decode cX8_undo 19 = .ok (.putfield 46, 3) := by decide +kernel
theorem dX8_undo_22 : decode cX8_undo 22 = .ok (.aload_n 0, 1) := by decide +kernel
theorem dX8_undo_23 : decode cX8_undo 23 = .ok (.getfield 14, 3) := by decide +kernel
theorem dX8_undo_26 : decode cX8_undo 26 = .ok (.sipush 2803, 3) := by decide +kernel
theorem dX8_undo_29 : decode cX8_undo 29 = .ok (.aload_n 0, 1) := by decide +kernel
theorem dX8_undo_30 : decode cX8_undo 30 = .ok (.getfield 46, 3) := by decide +kernel
theorem dX8_undo_33 : decode cX8_undo 33 = .ok (.imul, 1) := by decide +kernel
theorem dX8_undo_34 : decode cX8_undo 34 = .ok (.aload_n 0, 1) := by decide +kernel
theorem dX8_undo_35 : decode cX8_undo 35 = .ok (.getfield 7, 3) := by decide +kernel
theorem dX8_undo_38 : decode cX8_undo 38 = .ok (.iconst 0, 1) := by decide +kernel
theorem dX8_undo_39 : decode cX8_undo 39 = .ok (.sipush 2803, 3) := by decide +kernel
theorem dX8_undo_42 : decode cX8_undo 42 = .ok (.invokestatic 72, 3) := by decide +kernel
theorem dX8_undo_45 : decode cX8_undo 45 = .ok (.aload_n 0, 1) := by decide +kernel
theorem dX8_undo_46 : decode cX8_undo 46 = .ok (.getfield 46, 3) := by decide +kernel
theorem dX8_undo_49 : decode cX8_undo 49 = .ok (.ireturn, 1) := by decide +kernel
theorem dX8_begins_0 : decode cX8_begins 0 = .ok (.aload_n 0, 1) := by decide +kernel
theorem dX8_begins_1 : decode cX8_begins 1 = .ok (.getfield 7, 3) := by decide +kernel
theorem dX8_begins_4 : decode cX8_begins 4 = .ok (.bipush 14, 2) := by decide +kernel
theorem dX8_begins_6 : decode cX8_begins 6 = .ok (.iload_n 1, 1) := by decide +kernel
theorem dX8_begins_7 : decode cX8_begins 7 = .ok (.imul, 1) := by decide +kernel
theorem dX8_begins_8 : decode cX8_begins 8 = .ok (.iconst 3, 1) := by decide +kernel
theorem dX8_begins_9 : decode cX8_begins 9 = .ok (.iadd, 1) := by decide +kernel
theorem dX8_begins_10 : decode cX8_begins 10 = .ok (.iaload, 1) := by decide +kernel
theorem dX8_begins_11 : decode cX8_begins 11 = .ok (.aload_n 0, 1) := by decide +kernel
theorem dX8_begins_12 : decode cX8_begins 12 = .ok (.getfield 53, 3) := by decide +kernel
theorem dX8_begins_15 : decode cX8_begins 15 = .ok (.if_icmp .lt 7, 3) := by decide +kernel
theorem dX8_begins_18 : decode cX8_begins 18 = .ok (.iconst 1, 1) := by decide +kernel
theorem dX8_begins_19 : decode cX8_begins 19 = .ok (.goto 4, 3) := by decide +kernel
theorem dX8_begins_22 : decode cX8_begins 22 = .ok (.iconst 0, 1) := by decide +kernel
theorem dX8_begins_23 : decode cX8_begins 23 = .ok (.istore_n 2, 1) := by decide +kernel
theorem dX8_begins_24 : decode cX8_begins 24 = .ok (.iconst 0, 1) := by decide +kernel
theorem dX8_begins_25 : decode cX8_begins 25 = .ok (.istore_n 3, 1) := by decide +kernel
theorem dX8_begins_26 : decode cX8_begins 26 = .ok (.iload_n 3, 1) := by decide +kernel
theorem dX8_begins_27 : decode cX8_begins 27 = .ok (.aload_n 0, 1) := by decide +kernel
theorem dX8_begins_28 : decode cX8_begins 28 = .ok (.getfield 53, 3) := by decide +kernel
theorem dX8_begins_31 : decode cX8_begins 31 = .ok (.if_icmp .ge 42, 3) := by decide +kernel
theorem dX8_begins_34 : decode cX8_begins 34 = .ok (.iload_n 2, 1) := by decide +kernel
theorem dX8_begins_35 : decode cX8_begins 35 = .ok (.ifCond .eq 38, 3) := by decide +kernel
theorem dX8_begins_38 : decode cX8_begins 38 = .ok (.aload_n 0, 1) := by decide +kernel
theorem dX8_begins_39 : decode cX8_begins 39 = .ok (.getfield 7, 3) := by decide +kernel
theorem dX8_begins_42 : decode cX8_begins 42 = .ok (.bipush 14, 2) := by decide +kernel
theorem dX8_begins_44 : decode cX8_begins 44 = .ok (.iload_n 1, 1) := by decide +kernel
theorem dX8_begins_45 : decode cX8_begins 45 = .ok (.imul, 1) := by decide +kernel
theorem dX8_begins_46 : decode cX8_begins 46 = .ok (.bipush 6, 2) := by decide +kernel
theorem dX8_begins_48 : decode cX8_begins 48 = .ok (.iadd, 1) := by decide +kernel
theorem dX8_begins_49 : decode cX8_begins 49 = .ok (.iload_n 3, 1) := by decide +kernel
theorem dX8_begins_50 : decode cX8_begins 50 = .ok (.iadd, 1) := by decide +kernel
theorem dX8_begins_51 : decode cX8_begins 51 = .ok (.iaload, 1) := by decide +kernel
theorem dX8_begins_52 : decode cX8_begins 52 = .ok (.aload_n 0, 1) := by decide +kernel
theorem dX8_begins_53 : decode cX8_begins 53 = .ok (.getfield 17, 3) := by decide +kernel
theorem dX8_begins_56 : decode cX8_begins 56 = .ok (.iload_n 3, 1) := by decide +kernel
theorem dX8_begins_57 : decode cX8_begins 57 = .ok (.iaload, 1) := by decide +kernel
theorem dX8_begins_58 : decode cX8_begins 58 = .ok (.if_icmp .ne 7, 3) := by decide +kernel
theorem dX8_begins_61 : decode cX8_begins 61 = .ok (.iconst 1, 1) := by decide +kernel
theorem dX8_begins_62 : decode cX8_begins 62 = .ok (.goto 4, 3) := by decide +kernel
theorem dX8_begins_65 : decode cX8_begins 65 = .ok (.iconst 0, 1) := by decide +kernel
theorem dX8_begins_66 : decode cX8_begins 66 = .ok (.istore_n 2, 1) := by decide +kernel
theorem dX8_begins_67 : decode cX8_begins 67 = .ok (.iinc 3 1, 3) := by decide +kernel
theorem dX8_begins_70 : decode cX8_begins 70 = .ok (.goto (-44), 3) := by decide +kernel
theorem dX8_begins_73 : decode cX8_begins 73 = .ok (.iload_n 2, 1) := by decide +kernel
theorem dX8_begins_74 : decode cX8_begins 74 = .ok (.ireturn, 1) := by decide +kernel
theorem dX8_becomes_0 : decode cX8_becomes 0 = .ok (.aload_n 0, 1) := by decide +kernel
theorem dX8_becomes_1 : decode cX8_becomes 1 = .ok (.getfield 53, 3) := by decide +kernel
theorem dX8_becomes_4 : decode cX8_becomes 4 = .ok (.iload_n 2, 1) := by decide +kernel
theorem dX8_becomes_5 : decode cX8_becomes 5 = .ok (.isub, 1) := by decide +kernel
theorem dX8_becomes_6 : decode cX8_becomes 6 = .ok (.istore_n 3, 1) := by decide +kernel
theorem dX8_becomes_7 : decode cX8_becomes 7 = .ok (.iload_n 3, 1) := by decide +kernel
theorem dX8_becomes_8 : decode cX8_becomes 8 = .ok (.iconst (-1), 1) := by decide +kernel
theorem dX8_becomes_9 : decode cX8_becomes 9 = .ok (.if_icmp .lt 8, 3) := by decide +kernel
theorem dX8_becomes_12 : decode cX8_becomes 12 = .ok (.iload_n 3, 1) := by decide +kernel
theorem dX8_becomes_13 : decode cX8_becomes 13 = .ok (.iconst 1, 1) := by decide +kernel
theorem dX8_becomes_14 : decode cX8_becomes 14 = .ok (.if_icmp .le 5, 3) := by decide +kernel
theorem dX8_becomes_17 : decode cX8_becomes 17 = .ok (.iconst 0, 1) := by decide +kernel
theorem dX8_becomes_18 : decode cX8_becomes 18 = .ok (.ireturn, 1) := by decide +kernel
theorem dX8_becomes_19 : decode cX8_becomes 19 = .ok (.bipush 14, 2) := by decide +kernel
theorem dX8_becomes_21 : decode cX8_becomes 21 = .ok (.iload_n 1, 1) := by decide +kernel
theorem dX8_becomes_22 : decode cX8_becomes 22 = .ok (.imul, 1) := by decide +kernel
theorem dX8_becomes_23 : decode cX8_becomes 23 = .ok (.bipush 6, 2) := by decide +kernel
theorem dX8_becomes_25 : decode cX8_becomes 25 = .ok (.iadd, 1) := by decide +kernel
theorem dX8_becomes_26 : decode cX8_becomes 26 = .ok (.istore 4, 2) := by decide +kernel
theorem dX8_becomes_28 : decode cX8_becomes 28 = .ok (.iconst 0, 1) := by decide +kernel
theorem dX8_becomes_29 : decode cX8_becomes 29 = .ok (.istore 5, 2) := by decide +kernel
theorem dX8_becomes_31 : decode cX8_becomes 31 = .ok (.iload 5, 2) := by decide +kernel
theorem dX8_becomes_33 : decode cX8_becomes 33 = .ok (.iload_n 2, 1) := by decide +kernel
theorem dX8_becomes_34 : decode cX8_becomes 34 = .ok (.if_icmp .ge 38, 3) := by decide +kernel
theorem dX8_becomes_37 : decode cX8_becomes 37 = .ok (.iload 5, 2) := by decide +kernel
theorem dX8_becomes_39 : decode cX8_becomes 39 = .ok (.aload_n 0, 1) := by decide +kernel
theorem dX8_becomes_40 : decode cX8_becomes 40 = .ok (.getfield 53, 3) := by decide +kernel
theorem dX8_becomes_43 : decode cX8_becomes 43 = .ok (.if_icmp .ge 29, 3) := by decide +kernel
theorem dX8_becomes_46 : decode cX8_becomes 46 = .ok (.aload_n 0, 1) := by decide +kernel
theorem dX8_becomes_47 : decode cX8_becomes 47 = .ok (.getfield 7, 3) := by decide +kernel
theorem dX8_becomes_50 : decode cX8_becomes 50 = .ok (.iload 4, 2) := by decide +kernel
theorem dX8_becomes_52 : decode cX8_becomes 52 = .ok (.iload 5, 2) := by decide +kernel
theorem dX8_becomes_54 : decode cX8_becomes 54 = .ok (.iadd, 1) := by decide +kernel
theorem dX8_becomes_55 : decode cX8_becomes 55 = .ok (.iaload, 1) := by decide +kernel
theorem dX8_becomes_56 : decode cX8_becomes 56 = .ok (.aload_n 0, 1) := by decide +kernel
theorem dX8_becomes_57 : decode cX8_becomes 57 = .ok (.getfield 17, 3) := by decide +kernel
theorem dX8_becomes_60 : decode cX8_becomes 60 = .ok (.iload 5, 2) := by decide +kernel
theorem dX8_becomes_62 : decode cX8_becomes 62 = .ok (.iaload, 1) := by decide +kernel
theorem dX8_becomes_63 : decode cX8_becomes 63 = .ok (.if_icmp .ne 9, 3) := by decide +kernel
theorem dX8_becomes_66 : decode cX8_becomes 66 = .ok (.iinc 5 1, 3) := by decide +kernel
theorem dX8_becomes_69 : decode cX8_becomes 69 = .ok (.goto (-38), 3) := by decide +kernel
theorem dX8_becomes_72 : decode cX8_becomes 72 = .ok (.iload_n 3, 1) := by decide +kernel
theorem dX8_becomes_73 : decode cX8_becomes 73 = .ok (.ifCond .ne 11, 3) := by decide +kernel
theorem dX8_becomes_76 : decode cX8_becomes 76 = .ok (.iload 5, 2) := by decide +kernel
theorem dX8_becomes_78 : decode cX8_becomes 78 = .ok (.iload_n 2, 1) := by decide +kernel
theorem dX8_becomes_79 : decode cX8_becomes 79 = .ok (.if_icmp .ne 5, 3) := by decide +kernel
theorem dX8_becomes_82 : decode cX8_becomes 82 = .ok (.iconst 0, 1) := by decide +kernel
theorem dX8_becomes_83 : decode cX8_becomes 83 = .ok (.ireturn, 1) := by decide +kernel
theorem dX8_becomes_84 : decode cX8_becomes 84 = .ok (.iload 5, 2) := by decide +kernel
theorem dX8_becomes_86 : decode cX8_becomes 86 = .ok (.iload_n 3, 1) := by decide +kernel
theorem dX8_becomes_87 : decode cX8_becomes 87 = .ok (.iconst 1, 1) := by decide +kernel
theorem dX8_becomes_88 : decode cX8_becomes 88 = .ok (.if_icmp .ne 7, 3) := by decide +kernel
theorem dX8_becomes_91 : decode cX8_becomes 91 = .ok (.iconst 0, 1) := by decide +kernel
theorem dX8_becomes_92 : decode cX8_becomes 92 = .ok (.goto 4, 3) := by decide +kernel
theorem dX8_becomes_95 : decode cX8_becomes 95 = .ok (.iconst 1, 1) := by decide +kernel
theorem dX8_becomes_96 : decode cX8_becomes 96 = .ok (.iadd, 1) := by decide +kernel
theorem dX8_becomes_97 : decode cX8_becomes 97 = .ok (.istore 6, 2) := by decide +kernel
theorem dX8_becomes_99 : decode cX8_becomes 99 = .ok (.iload 5, 2) := by decide +kernel
theorem dX8_becomes_101 : decode cX8_becomes 101 = .ok (.iload_n 3, 1) := by decide +kernel
theorem dX8_becomes_102 : decode cX8_becomes 102 = .ok (.iconst (-1), 1) := by decide +kernel
theorem dX8_becomes_103 : decode cX8_becomes 103 = .ok (.if_icmp .ne 7, 3) := by decide +kernel
theorem dX8_becomes_106 : decode cX8_becomes 106 = .ok (.iconst 0, 1) := by decide +kernel
theorem dX8_becomes_107 : decode cX8_becomes 107 = .ok (.goto 4, 3) := by decide +kernel
theorem dX8_becomes_110 : decode cX8_becomes 110 = .ok (.iconst 1, 1) := by decide +kernel
theorem dX8_becomes_111 : decode cX8_becomes 111 = .ok (.iadd, 1) := by decide +kernel
theorem dX8_becomes_112 : decode cX8_becomes 112 = .ok (.istore 7, 2) := by decide +kernel
theorem dX8_becomes_114 : decode cX8_becomes 114 = .ok (.iload 6, 2) := by decide +kernel
theorem dX8_becomes_116 : decode cX8_becomes 116 = .ok (.iload_n 2, 1) := by decide +kernel
theorem dX8_becomes_117 : decode cX8_becomes 117 = .ok (.if_icmp .ge 41, 3) := by decide +kernel
theorem dX8_becomes_120 : decode cX8_becomes 120 = .ok (.iload 7, 2) := by decide +kernel
theorem dX8_becomes_122 : decode cX8_becomes 122 = .ok (.aload_n 0, 1) := by decide +kernel
theorem dX8_becomes_123 : decode cX8_becomes 123 = .ok (.getfield 53, 3) := by decide +kernel
theorem dX8_becomes_126 : decode cX8_becomes 126 = .ok (.if_icmp .ge 32, 3) := by decide +kernel
theorem dX8_becomes_129 : decode cX8_becomes 129 = .ok (.aload_n 0, 1) := by decide +kernel
theorem dX8_becomes_130 : decode cX8_becomes 130 = .ok (.getfield 7, 3) := by decide +kernel
theorem dX8_becomes_133 : decode cX8_becomes 133 = .ok (.iload 4, 2) := by decide +kernel
theorem dX8_becomes_135 : decode cX8_becomes 135 = .ok (.iload 6, 2) := by decide +kernel
theorem dX8_becomes_137 : decode cX8_becomes 137 = .ok (.iadd, 1) := by decide +kernel
theorem dX8_becomes_138 : decode cX8_becomes 138 = .ok (.iaload, 1) := by decide +kernel
theorem dX8_becomes_139 : decode cX8_becomes 139 = .ok (.aload_n 0, 1) := by decide +kernel
theorem dX8_becomes_140 : decode cX8_becomes 140 = .ok (.getfield 17, 3) := by decide +kernel
theorem dX8_becomes_143 : decode cX8_becomes 143 = .ok (.iload 7, 2) := by decide +kernel
theorem dX8_becomes_145 : decode cX8_becomes 145 = .ok (.iaload, 1) := by decide +kernel
theorem dX8_becomes_146 : decode cX8_becomes 146 = .ok (.if_icmp .ne 12, 3) := by decide +kernel
theorem dX8_becomes_149 : decode cX8_becomes 149 = .ok (.iinc 6 1, 3) := by decide +kernel
theorem dX8_becomes_152 : decode cX8_becomes 152 = .ok (.iinc 7 1, 3) := by decide +kernel
theorem dX8_becomes_155 : decode cX8_becomes 155 = .ok (.goto (-41), 3) := by decide +kernel
theorem dX8_becomes_158 : decode cX8_becomes 158 = .ok (.iload 6, 2) := by decide +kernel
theorem dX8_becomes_160 : decode cX8_becomes 160 = .ok (.iload_n 2, 1) := by decide +kernel
theorem dX8_becomes_161 : decode cX8_becomes 161 = .ok (.if_icmp .ne 16, 3) := by decide +kernel
theorem dX8_becomes_164 : decode cX8_becomes 164 = .ok (.iload 7, 2) := by decide +kernel
theorem dX8_becomes_166 : decode cX8_becomes 166 = .ok (.aload_n 0, 1) := by decide +kernel
theorem dX8_becomes_167 : decode cX8_becomes 167 = .ok (.getfield 53, 3) := by decide +kernel
theorem dX8_becomes_170 : decode cX8_becomes 170 = .ok (.if_icmp .ne 7, 3) := by decide +kernel
theorem dX8_becomes_173 : decode cX8_becomes 173 = .ok (.iconst 1, 1) := by decide +kernel
theorem dX8_becomes_174 : decode cX8_becomes 174 = .ok (.goto 4, 3) := by decide +kernel
theorem dX8_becomes_177 : decode cX8_becomes 177 = .ok (.iconst 0, 1) := by decide +kernel
theorem dX8_becomes_178 : decode cX8_becomes 178 = .ok (.ireturn, 1) := by decide +kernel
set_option maxRecDepth 20000 in
theorem ggX8_isClose_X8_becomes : GoodIn wsX8_isClose wsX8_becomes := goodIn_r _ [6, 7, 1, 8, 13, 14, 15, 16, 17, 18, 19, 20, 21, 22, 23, 24, 25, 26, 27, 28, 29, 30] (by decide +kernel) (by decide +kernel)
set_option maxRecDepth 20000 in
theorem gX8_isClose_X8_becomes : GoodIn wsX8_isClose (wsV RX8 134 RX8 yX8_becomes wsX8_becomes) := goodIn_app (goodIn_of _ (by decide +kernel)) ggX8_isClose_X8_becomes
set_option maxRecDepth 20000 in
theorem ggX8_isClose_X8_begins : GoodIn wsX8_isClose wsX8_begins := goodIn_r _ [12, 1, 7, 8, 13, 14, 15, 16, 17, 18, 19, 20, 21, 22, 23, 24, 25, 26, 27, 28, 29, 30] (by decide +kernel) (by decide +kernel)
set_option maxRecDepth 20000 in
theorem gX8_isClose_X8_begins : GoodIn wsX8_isClose (wsV RX8 138 RX8 yX8_begins wsX8_begins) := goodIn_app (goodIn_of _ (by decide +kernel)) ggX8_isClose_X8_begins
theorem dX8_isClose_0 : decode cX8_isClose 0 = .ok (.iconst 0, 1) := by decide +kernel
theorem dX8_isClose_1 : decode cX8_isClose 1 = .ok (.istore_n 2, 1) := by decide +kernel
theorem dX8_isClose_2 : decode cX8_isClose 2 = .ok (.iconst 0, 1) := by decide +kernel
theorem dX8_isClose_3 : decode cX8_isClose 3 = .ok (.istore_n 3, 1) := by decide +kernel
theorem dX8_isClose_4 : decode cX8_isClose 4 = .ok (.iload_n 3, 1) := by decide +kernel
theorem dX8_isClose_5 : decode cX8_isClose 5 = .ok (.aload_n 0, 1) := by decide +kernel
theorem dX8_isClose_6 : decode cX8_isClose 6 = .ok (.getfield 7, 3) := by decide +kernel
theorem dX8_isClose_9 : decode cX8_isClose 9 = .ok (.bipush 14, 2) := by decide +kernel
theorem dX8_isClose_11 : decode cX8_isClose 11 = .ok (.iload_n 1, 1) := by decide +kernel
theorem dX8_isClose_12 : decode cX8_isClose 12 = .ok (.imul, 1) := by decide +kernel
theorem dX8_isClose_13 : decode cX8_isClose 13 = .ok (.iconst 3, 1) := by decide +kernel
theorem dX8_isClose_14 : decode cX8_isClose 14 = .ok (.iadd, 1) := by decide +kernel
theorem dX8_isClose_15 : decode cX8_isClose 15 = .ok (.iaload, 1) := by decide +kernel
theorem dX8_isClose_16 : decode cX8_isClose 16 = .ok (.if_icmp .gt 20, 3) := by decide +kernel
theorem dX8_isClose_19 : decode cX8_isClose 19 = .ok (.iload_n 2, 1) := by decide +kernel
theorem dX8_isClose_20 : decode cX8_isClose 20 = .ok (.ifCond .ne 16, 3) := by decide +kernel
theorem dX8_isClose_23 : decode cX8_isClose 23 = .ok (.aload_n 0, 1) := by decide +kernel
theorem dX8_isClose_24 : decode cX8_isClose 24 = .ok (.iload_n 1, 1) := by decide +kernel
theorem dX8_isClose_25 : decode cX8_isClose 25 = .ok (.iload_n 3, 1) := by decide +kernel
theorem dX8_isClose_26 : decode cX8_isClose 26 = .ok (.invokevirtual 134, 3) := by decide +kernel
theorem dX8_isClose_29 : decode cX8_isClose 29 = .ok (.istore_n 2, 1) := by decide +kernel
theorem dX8_isClose_30 : decode cX8_isClose 30 = .ok (.iinc 3 1, 3) := by decide +kernel
theorem dX8_isClose_33 : decode cX8_isClose 33 = .ok (.goto (-29), 3) := by decide +kernel
theorem dX8_isClose_36 : decode cX8_isClose 36 = .ok (.iload_n 2, 1) := by decide +kernel
theorem dX8_isClose_37 : decode cX8_isClose 37 = .ok (.ifCond .eq 15, 3) := by decide +kernel
theorem dX8_isClose_40 : decode cX8_isClose 40 = .ok (.aload_n 0, 1) := by decide +kernel
theorem dX8_isClose_41 : decode cX8_isClose 41 = .ok (.iload_n 1, 1) := by decide +kernel
theorem dX8_isClose_42 : decode cX8_isClose 42 = .ok (.invokevirtual 138, 3) := by decide +kernel
theorem dX8_isClose_45 : decode cX8_isClose 45 = .ok (.ifCond .ne 7, 3) := by decide +kernel
theorem dX8_isClose_48 : decode cX8_isClose 48 = .ok (.iconst 1, 1) := by decide +kernel
theorem dX8_isClose_49 : decode cX8_isClose 49 = .ok (.goto 4, 3) := by decide +kernel
theorem dX8_isClose_52 : decode cX8_isClose 52 = .ok (.iconst 0, 1) := by decide +kernel
theorem dX8_isClose_53 : decode cX8_isClose 53 = .ok (.ireturn, 1) := by decide +kernel
set_option maxRecDepth 20000 in
theorem ggX8_laysRanks_X8_begins : GoodIn wsX8_laysRanks wsX8_begins := goodIn_r _ [8, 1, 9, 10, 19, 20, 21, 22, 23, 24, 25, 26, 27, 28, 29, 30, 31, 32, 33, 34, 35, 36] (by decide +kernel) (by decide +kernel)
set_option maxRecDepth 20000 in
theorem gX8_laysRanks_X8_begins : GoodIn wsX8_laysRanks (wsV RX8 138 RX8 yX8_begins wsX8_begins) := goodIn_app (goodIn_of _ (by decide +kernel)) ggX8_laysRanks_X8_begins
set_option maxRecDepth 20000 in
theorem ggX8_laysRanks_X8_isClose : GoodIn wsX8_laysRanks wsX8_isClose := goodIn_r _ [14, 1, 15, 16, 17, 7, 18, 9, 10, 4, 5, 6, 8, 19, 20, 21, 22, 23, 24, 25, 26, 27, 28, 29, 30, 31, 32, 33, 34, 35, 36] (by decide +kernel) (by decide +kernel)
set_option maxRecDepth 20000 in
theorem gX8_laysRanks_X8_isClose : GoodIn wsX8_laysRanks (wsV RX8 141 RX8 yX8_isClose wsX8_isClose) := goodIn_app (goodIn_of _ (by decide +kernel)) ggX8_laysRanks_X8_isClose
theorem dX8_laysRanks_0 : decode cX8_laysRanks 0 = .ok (.iconst 0, 1) := by decide +kernel
theorem dX8_laysRanks_1 : decode cX8_laysRanks 1 = .ok (.istore_n 2, 1) := by decide +kernel
theorem dX8_laysRanks_2 : decode cX8_laysRanks 2 = .ok (.iload_n 2, 1) := by decide +kernel
theorem dX8_laysRanks_3 : decode cX8_laysRanks 3 = .ok (.aload_n 0, 1) := by decide +kernel
theorem dX8_laysRanks_4 : decode cX8_laysRanks 4 = .ok (.getfield 7, 3) := by decide +kernel
theorem dX8_laysRanks_7 : decode cX8_laysRanks 7 = .ok (.sipush 2800, 3) := by decide +kernel
theorem dX8_laysRanks_10 : decode cX8_laysRanks 10 = .ok (.iaload, 1) := by decide +kernel
theorem dX8_laysRanks_11 : decode cX8_laysRanks 11 = .ok (.if_icmp .ge 96, 3) := by decide +kernel
theorem dX8_laysRanks_14 : decode cX8_laysRanks 14 = .ok (.aload_n 0, 1) := by decide +kernel
theorem dX8_laysRanks_15 : decode cX8_laysRanks 15 = .ok (.getfield 7, 3) := by decide +kernel
theorem dX8_laysRanks_18 : decode cX8_laysRanks 18 = .ok (.bipush 14, 2) := by decide +kernel
theorem dX8_laysRanks_20 : decode cX8_laysRanks 20 = .ok (.iload_n 2, 1) := by decide +kernel
theorem dX8_laysRanks_21 : decode cX8_laysRanks 21 = .ok (.imul, 1) := by decide +kernel
theorem dX8_laysRanks_22 : decode cX8_laysRanks 22 = .ok (.iaload, 1) := by decide +kernel
theorem dX8_laysRanks_23 : decode cX8_laysRanks 23 = .ok (.iconst 1, 1) := by decide +kernel
theorem dX8_laysRanks_24 : decode cX8_laysRanks 24 = .ok (.if_icmp .ne 7, 3) := by decide +kernel
theorem dX8_laysRanks_27 : decode cX8_laysRanks 27 = .ok (.iconst 1, 1) := by decide +kernel
theorem dX8_laysRanks_28 : decode cX8_laysRanks 28 = .ok (.goto 4, 3) := by decide +kernel
theorem dX8_laysRanks_31 : decode cX8_laysRanks 31 = .ok (.iconst 0, 1) := by decide +kernel
theorem dX8_laysRanks_32 : decode cX8_laysRanks 32 = .ok (.istore_n 3, 1) := by decide +kernel
theorem dX8_laysRanks_33 : decode cX8_laysRanks 33 = .ok (.aload_n 0, 1) := by decide +kernel
theorem dX8_laysRanks_34 : decode cX8_laysRanks 34 = .ok (.getfield 7, 3) := by decide +kernel
theorem dX8_laysRanks_37 : decode cX8_laysRanks 37 = .ok (.bipush 14, 2) := by decide +kernel
theorem dX8_laysRanks_39 : decode cX8_laysRanks 39 = .ok (.iload_n 2, 1) := by decide +kernel
theorem dX8_laysRanks_40 : decode cX8_laysRanks 40 = .ok (.imul, 1) := by decide +kernel
theorem dX8_laysRanks_41 : decode cX8_laysRanks 41 = .ok (.iconst 1, 1) := by decide +kernel
theorem dX8_laysRanks_42 : decode cX8_laysRanks 42 = .ok (.iadd, 1) := by decide +kernel
