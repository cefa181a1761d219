theorem dX5_newScore_22 : decode cX5_newScore 22 = .ok (.iload 4, 2) := by decide +kernel
theorem dX5_newScore_24 : decode cX5_newScore 24 = .ok (.iconst 3, 1) := by decide +kernel
theorem dX5_newScore_25 : decode cX5_newScore 25 = .ok (.isub, 1) := by decide +kernel
theorem dX5_newScore_26 : decode cX5_newScore 26 = .ok (.if_icmp .lt 7, 3) := by decide +kernel
theorem dX5_newScore_29 : decode cX5_newScore 29 = .ok (.iconst 1, 1) := by decide +kernel
theorem dX5_newScore_30 : decode cX5_newScore 30 = .ok (.goto 4, 3) := by decide +kernel
theorem dX5_newScore_33 : decode cX5_newScore 33 = .ok (.iconst 0, 1) := by decide +kernel
theorem dX5_newScore_34 : decode cX5_newScore 34 = .ok (.istore 7, 2) := by decide +kernel
theorem dX5_newScore_36 : decode cX5_newScore 36 = .ok (.iload 7, 2) := by decide +kernel
theorem dX5_newScore_38 : decode cX5_newScore 38 = .ok (.ifCond .eq 14, 3) := by decide +kernel
theorem dX5_newScore_41 : decode cX5_newScore 41 = .ok (.iload 6, 2) := by decide +kernel
theorem dX5_newScore_43 : decode cX5_newScore 43 = .ok (.bipush 20, 2) := by decide +kernel
theorem dX5_newScore_45 : decode cX5_newScore 45 = .ok (.iadd, 1) := by decide +kernel
theorem dX5_newScore_46 : decode cX5_newScore 46 = .ok (.invokestatic 9, 3) := by decide +kernel
theorem dX5_newScore_49 : decode cX5_newScore 49 = .ok (.goto 5, 3) := by decide +kernel
theorem dX5_newScore_52 : decode cX5_newScore 52 = .ok (.iload 6, 2) := by decide +kernel
theorem dX5_newScore_54 : decode cX5_newScore 54 = .ok (.istore 8, 2) := by decide +kernel
theorem dX5_newScore_56 : decode cX5_newScore 56 = .ok (.iload 6, 2) := by decide +kernel
theorem dX5_newScore_58 : decode cX5_newScore 58 = .ok (.iload_n 2, 1) := by decide +kernel
theorem dX5_newScore_59 : decode cX5_newScore 59 = .ok (.bipush 30, 2) := by decide +kernel
theorem dX5_newScore_61 : decode cX5_newScore 61 = .ok (.invokestatic 15, 3) := by decide +kernel
theorem dX5_newScore_64 : decode cX5_newScore 64 = .ok (.iadd, 1) := by decide +kernel
theorem dX5_newScore_65 : decode cX5_newScore 65 = .ok (.invokestatic 9, 3) := by decide +kernel
theorem dX5_newScore_68 : decode cX5_newScore 68 = .ok (.istore 9, 2) := by decide +kernel
theorem dX5_newScore_70 : decode cX5_newScore 70 = .ok (.iload_n 1, 1) := by decide +kernel
theorem dX5_newScore_71 : decode cX5_newScore 71 = .ok (.iconst 2, 1) := by decide +kernel
theorem dX5_newScore_72 : decode cX5_newScore 72 = .ok (.iload 8, 2) := by decide +kernel
theorem dX5_newScore_74 : decode cX5_newScore 74 = .ok (.iload_n 1, 1) := by decide +kernel
theorem dX5_newScore_75 : decode cX5_newScore 75 = .ok (.isub, 1) := by decide +kernel
theorem dX5_newScore_76 : decode cX5_newScore 76 = .ok (.imul, 1) := by decide +kernel
theorem dX5_newScore_77 : decode cX5_newScore 77 = .ok (.iadd, 1) := by decide +kernel
theorem dX5_newScore_78 : decode cX5_newScore 78 = .ok (.invokestatic 9, 3) := by decide +kernel
theorem dX5_newScore_81 : decode cX5_newScore 81 = .ok (.istore 10, 2) := by decide +kernel
theorem dX5_newScore_83 : decode cX5_newScore 83 = .ok (.iload_n 0, 1) := by decide +kernel
theorem dX5_newScore_84 : decode cX5_newScore 84 = .ok (.tableswitch 44 1 4 #[32, 35, 38, 41], 32) := by decide +kernel
theorem dX5_newScore_116 : decode cX5_newScore 116 = .ok (.iload 6, 2) := by decide +kernel
theorem dX5_newScore_118 : decode cX5_newScore 118 = .ok (.ireturn, 1) := by decide +kernel
theorem dX5_newScore_119 : decode cX5_newScore 119 = .ok (.iload 8, 2) := by decide +kernel
theorem dX5_newScore_121 : decode cX5_newScore 121 = .ok (.ireturn, 1) := by decide +kernel
theorem dX5_newScore_122 : decode cX5_newScore 122 = .ok (.iload 9, 2) := by decide +kernel
theorem dX5_newScore_124 : decode cX5_newScore 124 = .ok (.ireturn, 1) := by decide +kernel
theorem dX5_newScore_125 : decode cX5_newScore 125 = .ok (.iload 10, 2) := by decide +kernel
theorem dX5_newScore_127 : decode cX5_newScore 127 = .ok (.ireturn, 1) := by decide +kernel
theorem dX5_newScore_128 : decode cX5_newScore 128 = .ok (.iload 5, 2) := by decide +kernel
theorem dX5_newScore_130 : decode cX5_newScore 130 = .ok (.ireturn, 1) := by decide +kernel
theorem dX5_held_0 : decode cX5_held 0 = .ok (.iconst 0, 1) := by decide +kernel
theorem dX5_held_1 : decode cX5_held 1 = .ok (.iload_n 0, 1) := by decide +kernel
theorem dX5_held_2 : decode cX5_held 2 = .ok (.sipush 1000, 3) := by decide +kernel
theorem dX5_held_5 : decode cX5_held 5 = .ok (.invokestatic 15, 3) := by decide +kernel
theorem dX5_held_8 : decode cX5_held 8 = .ok (.invokestatic 21, 3) := by decide +kernel
theorem dX5_held_11 : decode cX5_held 11 = .ok (.ireturn, 1) := by decide +kernel
set_option maxRecDepth 20000 in
theorem ggX6_lengthOf_J13_numberOfLeadingZeros_95d88 : GoodIn wsX6_lengthOf wsJ13_numberOfLeadingZeros_95d88 := goodIn_r _ [4, 5, 6, 7, 8, 9] (by decide +kernel) (by decide +kernel)
set_option maxRecDepth 20000 in
theorem gX6_lengthOf_J13_numberOfLeadingZeros_95d88 : GoodIn wsX6_lengthOf (va_wsS RX6 7 yJ13_numberOfLeadingZeros_95d88 wsJ13_numberOfLeadingZeros_95d88) := goodIn_app (goodIn_of _ (by decide +kernel)) ggX6_lengthOf_J13_numberOfLeadingZeros_95d88
theorem dX6_lengthOf_0 : decode cX6_lengthOf 0 = .ok (.bipush 64, 2) := by decide +kernel
theorem dX6_lengthOf_2 : decode cX6_lengthOf 2 = .ok (.lload_n 0, 1) := by decide +kernel
theorem dX6_lengthOf_3 : decode cX6_lengthOf 3 = .ok (.invokestatic 7, 3) := by decide +kernel
theorem dX6_lengthOf_6 : decode cX6_lengthOf 6 = .ok (.isub, 1) := by decide +kernel
theorem dX6_lengthOf_7 : decode cX6_lengthOf 7 = .ok (.iconst 3, 1) := by decide +kernel
theorem dX6_lengthOf_8 : decode cX6_lengthOf 8 = .ok (.iadd, 1) := by decide +kernel
theorem dX6_lengthOf_9 : decode cX6_lengthOf 9 = .ok (.iconst 4, 1) := by decide +kernel
theorem dX6_lengthOf_10 : decode cX6_lengthOf 10 = .ok (.idiv, 1) := by decide +kernel
theorem dX6_lengthOf_11 : decode cX6_lengthOf 11 = .ok (.ireturn, 1) := by decide +kernel
theorem dX6_letterAt_0 : decode cX6_letterAt 0 = .ok (.lload_n 0, 1) := by decide +kernel
theorem dX6_letterAt_1 : decode cX6_letterAt 1 = .ok (.iconst 4, 1) := by decide +kernel
theorem dX6_letterAt_2 : decode cX6_letterAt 2 = .ok (.iload_n 2, 1) := by decide +kernel
theorem dX6_letterAt_3 : decode cX6_letterAt 3 = .ok (.imul, 1) := by decide +kernel
theorem dX6_letterAt_4 : decode cX6_letterAt 4 = .ok (.lushr, 1) := by decide +kernel
theorem dX6_letterAt_5 : decode cX6_letterAt 5 = .ok (.ldc2_w 13, 3) := by decide +kernel
theorem dX6_letterAt_8 : decode cX6_letterAt 8 = .ok (.land, 1) := by decide +kernel
theorem dX6_letterAt_9 : decode cX6_letterAt 9 = .ok (.l2i, 1) := by decide +kernel
theorem dX6_letterAt_10 : decode cX6_letterAt 10 = .ok (.iconst 1, 1) := by decide +kernel
theorem dX6_letterAt_11 : decode cX6_letterAt 11 = .ok (.isub, 1) := by decide +kernel
theorem dX6_letterAt_12 : decode cX6_letterAt 12 = .ok (.ireturn, 1) := by decide +kernel
set_option maxRecDepth 20000 in
theorem ggX6_longer_X6_lengthOf : GoodIn wsX6_longer wsX6_lengthOf := goodIn_r _ [4, 5, 6, 7, 8, 9, 10, 11, 12, 13] (by decide +kernel) (by decide +kernel)
set_option maxRecDepth 20000 in
theorem gX6_longer_X6_lengthOf : GoodIn wsX6_longer (va_wsS RX6 15 yX6_lengthOf wsX6_lengthOf) := goodIn_app (goodIn_of _ (by decide +kernel)) ggX6_longer_X6_lengthOf
theorem dX6_longer_0 : decode cX6_longer 0 = .ok (.lload_n 0, 1) := by decide +kernel
theorem dX6_longer_1 : decode cX6_longer 1 = .ok (.iload_n 2, 1) := by decide +kernel
theorem dX6_longer_2 : decode cX6_longer 2 = .ok (.iconst 1, 1) := by decide +kernel
theorem dX6_longer_3 : decode cX6_longer 3 = .ok (.iadd, 1) := by decide +kernel
theorem dX6_longer_4 : decode cX6_longer 4 = .ok (.i2l, 1) := by decide +kernel
theorem dX6_longer_5 : decode cX6_longer 5 = .ok (.iconst 4, 1) := by decide +kernel
theorem dX6_longer_6 : decode cX6_longer 6 = .ok (.lload_n 0, 1) := by decide +kernel
theorem dX6_longer_7 : decode cX6_longer 7 = .ok (.invokestatic 15, 3) := by decide +kernel
theorem dX6_longer_10 : decode cX6_longer 10 = .ok (.imul, 1) := by decide +kernel
theorem dX6_longer_11 : decode cX6_longer 11 = .ok (.lshl, 1) := by decide +kernel
theorem dX6_longer_12 : decode cX6_longer 12 = .ok (.lor, 1) := by decide +kernel
theorem dX6_longer_13 : decode cX6_longer 13 = .ok (.lreturn, 1) := by decide +kernel
theorem dX6_mask_0 : decode cX6_mask 0 = .ok (.lconst 1, 1) := by decide +kernel
theorem dX6_mask_1 : decode cX6_mask 1 = .ok (.iconst 4, 1) := by decide +kernel
theorem dX6_mask_2 : decode cX6_mask 2 = .ok (.iload_n 0, 1) := by decide +kernel
theorem dX6_mask_3 : decode cX6_mask 3 = .ok (.imul, 1) := by decide +kernel
theorem dX6_mask_4 : decode cX6_mask 4 = .ok (.lshl, 1) := by decide +kernel
theorem dX6_mask_5 : decode cX6_mask 5 = .ok (.lconst 1, 1) := by decide +kernel
theorem dX6_mask_6 : decode cX6_mask 6 = .ok (.lsub, 1) := by decide +kernel
theorem dX6_mask_7 : decode cX6_mask 7 = .ok (.lreturn, 1) := by decide +kernel
set_option maxRecDepth 20000 in
theorem ggX6_beginning_X6_mask : GoodIn wsX6_beginning wsX6_mask := goodIn_r _ [4] (by decide +kernel) (by decide +kernel)
set_option maxRecDepth 20000 in
theorem gX6_beginning_X6_mask : GoodIn wsX6_beginning (va_wsS RX6 20 yX6_mask wsX6_mask) := goodIn_app (goodIn_of _ (by decide +kernel)) ggX6_beginning_X6_mask
theorem dX6_beginning_0 : decode cX6_beginning 0 = .ok (.lload_n 0, 1) := by decide +kernel
theorem dX6_beginning_1 : decode cX6_beginning 1 = .ok (.iload_n 2, 1) := by decide +kernel
theorem dX6_beginning_2 : decode cX6_beginning 2 = .ok (.invokestatic 20, 3) := by decide +kernel
theorem dX6_beginning_5 : decode cX6_beginning 5 = .ok (.land, 1) := by decide +kernel
theorem dX6_beginning_6 : decode cX6_beginning 6 = .ok (.lreturn, 1) := by decide +kernel
set_option maxRecDepth 20000 in
theorem ggX6_without_X6_mask : GoodIn wsX6_without wsX6_mask := goodIn_r _ [5] (by decide +kernel) (by decide +kernel)
set_option maxRecDepth 20000 in
theorem gX6_without_X6_mask : GoodIn wsX6_without (va_wsS RX6 20 yX6_mask wsX6_mask) := goodIn_app (goodIn_of _ (by decide +kernel)) ggX6_without_X6_mask
theorem dX6_without_0 : decode cX6_without 0 = .ok (.lload_n 0, 1) := by decide +kernel
theorem dX6_without_1 : decode cX6_without 1 = .ok (.iload_n 2, 1) := by decide +kernel
theorem dX6_without_2 : decode cX6_without 2 = .ok (.invokestatic 20, 3) := by decide +kernel
theorem dX6_without_5 : decode cX6_without 5 = .ok (.land, 1) := by decide +kernel
theorem dX6_without_6 : decode cX6_without 6 = .ok (.lload_n 0, 1) := by decide +kernel
theorem dX6_without_7 : decode cX6_without 7 = .ok (.iconst 4, 1) := by decide +kernel
theorem dX6_without_8 : decode cX6_without 8 = .ok (.lushr, 1) := by decide +kernel
theorem dX6_without_9 : decode cX6_without 9 = .ok (.iload_n 2, 1) := by decide +kernel
theorem dX6_without_10 : decode cX6_without 10 = .ok (.invokestatic 20, 3) := by decide +kernel
theorem dX6_without_13 : decode cX6_without 13 = .ok (.ldc2_w 24, 3) := by decide +kernel
theorem dX6_without_16 : decode cX6_without 16 = .ok (.lxor, 1) := by decide +kernel
theorem dX6_without_17 : decode cX6_without 17 = .ok (.land, 1) := by decide +kernel
theorem dX6_without_18 : decode cX6_without 18 = .ok (.lor, 1) := by decide +kernel
theorem dX6_without_19 : decode cX6_without 19 = .ok (.lreturn, 1) := by decide +kernel
set_option maxRecDepth 20000 in
theorem ggX6_begins_X6_lengthOf : GoodIn wsX6_begins wsX6_lengthOf := goodIn_r _ [4, 5, 6, 7, 8, 9, 10, 11, 12, 13] (by decide +kernel) (by decide +kernel)
set_option maxRecDepth 20000 in
theorem gX6_begins_X6_lengthOf : GoodIn wsX6_begins (va_wsS RX6 15 yX6_lengthOf wsX6_lengthOf) := goodIn_app (goodIn_of _ (by decide +kernel)) ggX6_begins_X6_lengthOf
set_option maxRecDepth 20000 in
theorem ggX6_begins_X6_beginning : GoodIn wsX6_begins wsX6_beginning := goodIn_r _ [16, 17, 18, 3, 19] (by decide +kernel) (by decide +kernel)
set_option maxRecDepth 20000 in
theorem gX6_begins_X6_beginning : GoodIn wsX6_begins (va_wsS RX6 26 yX6_beginning wsX6_beginning) := goodIn_app (goodIn_of _ (by decide +kernel)) ggX6_begins_X6_beginning
theorem dX6_begins_0 : decode cX6_begins 0 = .ok (.lload_n 0, 1) := by decide +kernel
theorem dX6_begins_1 : decode cX6_begins 1 = .ok (.lload_n 2, 1) := by decide +kernel
theorem dX6_begins_2 : decode cX6_begins 2 = .ok (.invokestatic 15, 3) := by decide +kernel
theorem dX6_begins_5 : decode cX6_begins 5 = .ok (.invokestatic 26, 3) := by decide +kernel
theorem dX6_begins_8 : decode cX6_begins 8 = .ok (.lload_n 2, 1) := by decide +kernel
theorem dX6_begins_9 : decode cX6_begins 9 = .ok (.lcmp, 1) := by decide +kernel
theorem dX6_begins_10 : decode cX6_begins 10 = .ok (.ifCond .ne 7, 3) := by decide +kernel
theorem dX6_begins_13 : decode cX6_begins 13 = .ok (.iconst 1, 1) := by decide +kernel
theorem dX6_begins_14 : decode cX6_begins 14 = .ok (.goto 4, 3) := by decide +kernel
theorem dX6_begins_17 : decode cX6_begins 17 = .ok (.iconst 0, 1) := by decide +kernel
theorem dX6_begins_18 : decode cX6_begins 18 = .ok (.ireturn, 1) := by decide +kernel
set_option maxRecDepth 20000 in
theorem ggX6_sameAtFirst_X6_lengthOf : GoodIn wsX6_sameAtFirst wsX6_lengthOf := goodIn_r _ [4, 5, 6, 7, 8, 9, 10, 11, 12, 13] (by decide +kernel) (by decide +kernel)
set_option maxRecDepth 20000 in
theorem gX6_sameAtFirst_X6_lengthOf : GoodIn wsX6_sameAtFirst (va_wsS RX6 15 yX6_lengthOf wsX6_lengthOf) := goodIn_app (goodIn_of _ (by decide +kernel)) ggX6_sameAtFirst_X6_lengthOf
set_option maxRecDepth 20000 in
theorem ggX6_sameAtFirst_J13_numberOfTrailingZeros_95d88 : GoodIn wsX6_sameAtFirst wsJ13_numberOfTrailingZeros_95d88 := goodIn_r _ [16, 17, 18, 11, 19, 13] (by decide +kernel) (by decide +kernel)
set_option maxRecDepth 20000 in
theorem gX6_sameAtFirst_J13_numberOfTrailingZeros_95d88 : GoodIn wsX6_sameAtFirst (va_wsS RX6 30 yJ13_numberOfTrailingZeros_95d88 wsJ13_numberOfTrailingZeros_95d88) := goodIn_app (goodIn_of _ (by decide +kernel)) ggX6_sameAtFirst_J13_numberOfTrailingZeros_95d88
theorem dX6_sameAtFirst_0 : decode cX6_sameAtFirst 0 = .ok (.lload_n 0, 1) := by decide +kernel
theorem dX6_sameAtFirst_1 : decode cX6_sameAtFirst 1 = .ok (.lload_n 2, 1) := by decide +kernel
theorem dX6_sameAtFirst_2 : decode cX6_sameAtFirst 2 = .ok (.lcmp, 1) := by decide +kernel
theorem dX6_sameAtFirst_3 : decode cX6_sameAtFirst 3 = .ok (.ifCond .ne 10, 3) := by decide +kernel
theorem dX6_sameAtFirst_6 : decode cX6_sameAtFirst 6 = .ok (.lload_n 0, 1) := by decide +kernel
theorem dX6_sameAtFirst_7 : decode cX6_sameAtFirst 7 = .ok (.invokestatic 15, 3) := by decide +kernel
theorem dX6_sameAtFirst_10 : decode cX6_sameAtFirst 10 = .ok (.goto 11, 3) := by decide +kernel
theorem dX6_sameAtFirst_13 : decode cX6_sameAtFirst 13 = .ok (.lload_n 0, 1) := by decide +kernel
theorem dX6_sameAtFirst_14 : decode cX6_sameAtFirst 14 = .ok (.lload_n 2, 1) := by decide +kernel
theorem dX6_sameAtFirst_15 : decode cX6_sameAtFirst 15 = .ok (.lxor, 1) := by decide +kernel
theorem dX6_sameAtFirst_16 : decode cX6_sameAtFirst 16 = .ok (.invokestatic 30, 3) := by decide +kernel
theorem dX6_sameAtFirst_19 : decode cX6_sameAtFirst 19 = .ok (.iconst 4, 1) := by decide +kernel
theorem dX6_sameAtFirst_20 : decode cX6_sameAtFirst 20 = .ok (.idiv, 1) := by decide +kernel
theorem dX6_sameAtFirst_21 : decode cX6_sameAtFirst 21 = .ok (.ireturn, 1) := by decide +kernel
set_option maxRecDepth 20000 in
theorem ggX6_isOneSlipFrom_X6_begins : GoodIn wsX6_isOneSlipFrom wsX6_begins := goodIn_r _ [4, 5, 6, 3, 7, 8, 9, 10, 11, 12, 13, 14, 15, 16, 17, 18, 19, 20, 21, 22] (by decide +kernel) (by decide +kernel)
set_option maxRecDepth 20000 in
theorem gX6_isOneSlipFrom_X6_begins : GoodIn wsX6_isOneSlipFrom (va_wsS RX6 33 yX6_begins wsX6_begins) := goodIn_app (goodIn_of _ (by decide +kernel)) ggX6_isOneSlipFrom_X6_begins
set_option maxRecDepth 20000 in
theorem ggX6_isOneSlipFrom_X6_lengthOf : GoodIn wsX6_isOneSlipFrom wsX6_lengthOf := goodIn_r _ [7, 8, 9, 10, 11, 12, 13, 14, 15, 16] (by decide +kernel) (by decide +kernel)
set_option maxRecDepth 20000 in
theorem gX6_isOneSlipFrom_X6_lengthOf : GoodIn wsX6_isOneSlipFrom (va_wsS RX6 15 yX6_lengthOf wsX6_lengthOf) := goodIn_app (goodIn_of _ (by decide +kernel)) ggX6_isOneSlipFrom_X6_lengthOf
set_option maxRecDepth 20000 in
theorem ggX6_isOneSlipFrom_X6_sameAtFirst : GoodIn wsX6_isOneSlipFrom wsX6_sameAtFirst := goodIn_r _ [25, 5, 6, 3, 7, 8, 9, 10, 11, 12, 13, 14, 15, 16, 26, 27, 28, 29, 30, 31] (by decide +kernel) (by decide +kernel)
set_option maxRecDepth 20000 in
theorem gX6_isOneSlipFrom_X6_sameAtFirst : GoodIn wsX6_isOneSlipFrom (va_wsS RX6 37 yX6_sameAtFirst wsX6_sameAtFirst) := goodIn_app (goodIn_of _ (by decide +kernel)) ggX6_isOneSlipFrom_X6_sameAtFirst
set_option maxRecDepth 20000 in
theorem ggX6_isOneSlipFrom_X6_without : GoodIn wsX6_isOneSlipFrom wsX6_without := goodIn_r _ [34, 35, 20, 21, 3, 22] (by decide +kernel) (by decide +kernel)
set_option maxRecDepth 20000 in
theorem gX6_isOneSlipFrom_X6_without : GoodIn wsX6_isOneSlipFrom (va_wsS RX6 41 yX6_without wsX6_without) := goodIn_app (goodIn_of _ (by decide +kernel)) ggX6_isOneSlipFrom_X6_without
set_option maxRecDepth 20000 in
theorem ggX6_isOneSlipFrom_X6_beginning : GoodIn wsX6_isOneSlipFrom wsX6_beginning := goodIn_r _ [19, 20, 21, 3, 22] (by decide +kernel) (by decide +kernel)
set_option maxRecDepth 20000 in
theorem gX6_isOneSlipFrom_X6_beginning : GoodIn wsX6_isOneSlipFrom (va_wsS RX6 26 yX6_beginning wsX6_beginning) := goodIn_app (goodIn_of _ (by decide +kernel)) ggX6_isOneSlipFrom_X6_beginning
theorem dX6_isOneSlipFrom_0 : decode cX6_isOneSlipFrom 0 = .ok (.lload_n 0, 1) := by decide +kernel
theorem dX6_isOneSlipFrom_1 : decode cX6_isOneSlipFrom 1 = .ok (.lload_n 2, 1) := by decide +kernel
theorem dX6_isOneSlipFrom_2 : decode cX6_isOneSlipFrom 2 = .ok (.invokestatic 33, 3) := by decide +kernel
theorem dX6_isOneSlipFrom_5 : decode cX6_isOneSlipFrom 5 = .ok (.ifCond .eq 5, 3) := by decide +kernel
theorem dX6_isOneSlipFrom_8 : decode cX6_isOneSlipFrom 8 = .ok (.iconst 0, 1) := by decide +kernel
theorem dX6_isOneSlipFrom_9 : decode cX6_isOneSlipFrom 9 = .ok (.ireturn, 1) := by decide +kernel
theorem dX6_isOneSlipFrom_10 : decode cX6_isOneSlipFrom 10 = .ok (.lload_n 2, 1) := by decide +kernel
theorem dX6_isOneSlipFrom_11 : decode cX6_isOneSlipFrom 11 = .ok (.invokestatic 15, 3) := by decide +kernel
theorem dX6_isOneSlipFrom_14 : decode cX6_isOneSlipFrom 14 = .ok (.istore 4, 2) := by decide +kernel
theorem dX6_isOneSlipFrom_16 : decode cX6_isOneSlipFrom 16 = .ok (.lload_n 0, 1) := by decide +kernel
theorem dX6_isOneSlipFrom_17 : decode cX6_isOneSlipFrom 17 = .ok (.lload_n 2, 1) := by decide +kernel
theorem dX6_isOneSlipFrom_18 : decode cX6_isOneSlipFrom 18 = .ok (.invokestatic 37, 3) := by decide +kernel
theorem dX6_isOneSlipFrom_21 : decode cX6_isOneSlipFrom 21 = .ok (.istore 5, 2) := by decide +kernel
theorem dX6_isOneSlipFrom_23 : decode cX6_isOneSlipFrom 23 = .ok (.lload_n 2, 1) := by decide +kernel
theorem dX6_isOneSlipFrom_24 : decode cX6_isOneSlipFrom 24 = .ok (.iload 5, 2) := by decide +kernel
theorem dX6_isOneSlipFrom_26 : decode cX6_isOneSlipFrom 26 = .ok (.invokestatic 41, 3) := by decide +kernel
theorem dX6_isOneSlipFrom_29 : decode cX6_isOneSlipFrom 29 = .ok (.lstore 6, 2) := by decide +kernel
theorem dX6_isOneSlipFrom_31 : decode cX6_isOneSlipFrom 31 = .ok (.lload 6, 2) := by decide +kernel
theorem dX6_isOneSlipFrom_33 : decode cX6_isOneSlipFrom 33 = .ok (.lload_n 0, 1) := by decide +kernel
theorem dX6_isOneSlipFrom_34 : decode cX6_isOneSlipFrom 34 = .ok (.iload 4, 2) := by decide +kernel
theorem dX6_isOneSlipFrom_36 : decode cX6_isOneSlipFrom 36 = .ok (.iconst 1, 1) := by decide +kernel
theorem dX6_isOneSlipFrom_37 : decode cX6_isOneSlipFrom 37 = .ok (.isub, 1) := by decide +kernel
theorem dX6_isOneSlipFrom_38 : decode cX6_isOneSlipFrom 38 = .ok (.invokestatic 26, 3) := by decide +kernel
theorem dX6_isOneSlipFrom_41 : decode cX6_isOneSlipFrom 41 = .ok (.lcmp, 1) := by decide +kernel
theorem dX6_isOneSlipFrom_42 : decode cX6_isOneSlipFrom 42 = .ok (.ifCond .eq 38, 3) := by decide +kernel
theorem dX6_isOneSlipFrom_45 : decode cX6_isOneSlipFrom 45 = .ok (.lload_n 2, 1) := by decide +kernel
theorem dX6_isOneSlipFrom_46 : decode cX6_isOneSlipFrom 46 = .ok (.lload_n 0, 1) := by decide +kernel
theorem dX6_isOneSlipFrom_47 : decode cX6_isOneSlipFrom 47 = .ok (.iload 4, 2) := by decide +kernel
theorem dX6_isOneSlipFrom_49 : decode cX6_isOneSlipFrom 49 = .ok (.iconst 1, 1) := by decide +kernel
theorem dX6_isOneSlipFrom_50 : decode cX6_isOneSlipFrom 50 = .ok (.iadd, 1) := by decide +kernel
theorem dX6_isOneSlipFrom_51 : decode cX6_isOneSlipFrom 51 = .ok (.invokestatic 26, 3) := by decide +kernel
theorem dX6_isOneSlipFrom_54 : decode cX6_isOneSlipFrom 54 = .ok (.iload 5, 2) := by decide +kernel
theorem dX6_isOneSlipFrom_56 : decode cX6_isOneSlipFrom 56 = .ok (.invokestatic 41, 3) := by decide +kernel
theorem dX6_isOneSlipFrom_59 : decode cX6_isOneSlipFrom 59 = .ok (.lcmp, 1) := by decide +kernel
theorem dX6_isOneSlipFrom_60 : decode cX6_isOneSlipFrom 60 = .ok (.ifCond .eq 20, 3) := by decide +kernel
theorem dX6_isOneSlipFrom_63 : decode cX6_isOneSlipFrom 63 = .ok (.lload 6, 2) := by decide +kernel
theorem dX6_isOneSlipFrom_65 : decode cX6_isOneSlipFrom 65 = .ok (.lload_n 0, 1) := by decide +kernel
theorem dX6_isOneSlipFrom_66 : decode cX6_isOneSlipFrom 66 = .ok (.iload 4, 2) := by decide +kernel
theorem dX6_isOneSlipFrom_68 : decode cX6_isOneSlipFrom 68 = .ok (.invokestatic 26, 3) := by decide +kernel
theorem dX6_isOneSlipFrom_71 : decode cX6_isOneSlipFrom 71 = .ok (.iload 5, 2) := by decide +kernel
theorem dX6_isOneSlipFrom_73 : decode cX6_isOneSlipFrom 73 = .ok (.invokestatic 41, 3) := by decide +kernel
theorem dX6_isOneSlipFrom_76 : decode cX6_isOneSlipFrom 76 = .ok (.lcmp, 1) := by decide +kernel
theorem dX6_isOneSlipFrom_77 : decode cX6_isOneSlipFrom 77 = .ok (.ifCond .ne 7, 3) := by decide +kernel
theorem dX6_isOneSlipFrom_80 : decode cX6_isOneSlipFrom 80 = .ok (.iconst 1, 1) := by decide +kernel
theorem dX6_isOneSlipFrom_81 : decode cX6_isOneSlipFrom 81 = .ok (.goto 4, 3) := by decide +kernel
theorem dX6_isOneSlipFrom_84 : decode cX6_isOneSlipFrom 84 = .ok (.iconst 0, 1) := by decide +kernel
theorem dX6_isOneSlipFrom_85 : decode cX6_isOneSlipFrom 85 = .ok (.ireturn, 1) := by decide +kernel
set_option maxRecDepth 20000 in
theorem ggX7_init_X0_init : GoodIn wsX7_init wsX0_init := goodIn_r _ [26, 27, 2, 3, 28, 29, 30, 31, 32, 33, 34, 35, 36, 37, 38, 39, 66, 67, 68, 69, 70, 71, 72, 73, 74, 75] (by decide +kernel) (by decide +kernel)
set_option maxRecDepth 20000 in
theorem gX7_init_X0_init_n9 : GoodIn wsX7_init (wsX0_init) := ggX7_init_X0_init
set_option maxRecDepth 20000 in
theorem ggX7_init_X4_init : GoodIn wsX7_init wsX4_init := goodIn_r _ [42, 43, 2, 3, 44, 45, 46, 47, 5, 6, 25, 26, 27, 28, 29, 30, 31, 32, 33, 34, 35, 36, 37, 38, 39, 85, 86, 87, 66, 67, 68, 69, 70, 71, 72, 73, 74, 75] (by decide +kernel) (by decide +kernel)
set_option maxRecDepth 20000 in
theorem gX7_init_X4_init : GoodIn wsX7_init (wsX4_init) := ggX7_init_X4_init
set_option maxRecDepth 20000 in
theorem ggX7_init_X2_init : GoodIn wsX7_init wsX2_init := goodIn_r _ [49, 50, 2, 3, 28, 51, 52, 53, 88, 89, 90] (by decide +kernel) (by decide +kernel)
set_option maxRecDepth 20000 in
theorem gX7_init_X2_init_n25 : GoodIn wsX7_init (wsX2_init) := ggX7_init_X2_init
set_option maxRecDepth 20000 in
theorem ggX7_init_X3_init : GoodIn wsX7_init wsX3_init := goodIn_r _ [55, 56, 2, 3, 28, 57, 58, 59, 30, 60, 61, 62, 63, 64, 65, 91, 92, 93, 94, 95, 96, 97, 98, 99] (by decide +kernel) (by decide +kernel)
set_option maxRecDepth 20000 in
theorem gX7_init_X3_init_n32 : GoodIn wsX7_init (wsX3_init) := ggX7_init_X3_init
theorem dX7_init_0 : decode cX7_init 0 = .ok (.aload_n 0, 1) := by decide +kernel
theorem dX7_init_1 : decode cX7_init 1 = .ok (.invokespecial 1, 3) := by decide +kernel
theorem dX7_init_4 : decode cX7_init 4 = .ok (.aload_n 0, 1) := by decide +kernel
theorem dX7_init_5 : decode cX7_init 5 = .ok (.new 7, 3) := by decide +kernel
theorem dX7_init_8 : decode cX7_init 8 = .ok (.dup, 1) := by decide +kernel
theorem dX7_init_9 : decode cX7_init 9 = .ok (.invokespecial 9, 3) := by decide +kernel
theorem dX7_init_12 : decode cX7_init 12 = .ok (.putfield 10, 3) := by decide +kernel
theorem dX7_init_15 : decode cX7_init 15 = .ok (.aload_n 0, 1) := by decide +kernel
theorem dX7_init_16 : decode cX7_init 16 = .ok (.new 16, 3) := by decide +kernel
theorem dX7_init_19 : decode cX7_init 19 = .ok (.dup, 1) := by decide +kernel
theorem dX7_init_20 : decode cX7_init 20 = .ok (.invokespecial 18, 3) := by decide +kernel
theorem dX7_init_23 : decode cX7_init 23 = .ok (.putfield 19, 3) := by decide +kernel
theorem dX7_init_26 : decode cX7_init 26 = .ok (.aload_n 0, 1) := by decide +kernel
theorem dX7_init_27 : decode cX7_init 27 = .ok (.new 23, 3) := by decide +kernel
theorem dX7_init_30 : decode cX7_init 30 = .ok (.dup, 1) := by decide +kernel
theorem dX7_init_31 : decode cX7_init 31 = .ok (.invokespecial 25, 3) := by decide +kernel
theorem dX7_init_34 : decode cX7_init 34 = .ok (.putfield 26, 3) := by decide +kernel
theorem dX7_init_37 : decode cX7_init 37 = .ok (.aload_n 0, 1) := by decide +kernel
theorem dX7_init_38 : decode cX7_init 38 = .ok (.new 30, 3) := by decide +kernel
theorem dX7_init_41 : decode cX7_init 41 = .ok (.dup, 1) := by decide +kernel
theorem dX7_init_42 : decode cX7_init 42 = .ok (.invokespecial 32, 3) := by decide +kernel
theorem dX7_init_45 : decode cX7_init 45 = .ok (.putfield 33, 3) := by decide +kernel
theorem dX7_init_48 : decode cX7_init 48 = .ok (.aload_n 0, 1) := by decide +kernel
theorem dX7_init_49 : decode cX7_init 49 = .ok (.lconst 0, 1) := by decide +kernel
theorem dX7_init_50 : decode cX7_init 50 = .ok (.putfield 37, 3) := by decide +kernel
theorem dX7_init_53 : decode cX7_init 53 = .ok (.aload_n 0, 1) := by decide +kernel
theorem dX7_init_54 : decode cX7_init 54 = .ok (.iconst 0, 1) := by decide +kernel
theorem dX7_init_55 : decode cX7_init 55 = .ok (.putfield 41, 3) := by decide +kernel
theorem dX7_init_58 : decode cX7_init 58 = .ok (.aload_n 0, 1) := by decide +kernel
theorem dX7_init_59 : decode cX7_init 59 = .ok (.iconst 0, 1) := by decide +kernel
theorem dX7_init_60 : decode cX7_init 60 = .ok (.putfield 45, 3) := by decide +kernel
theorem dX7_init_63 : decode cX7_init 63 = .ok (.aload_n 0, 1) := by decide +kernel
theorem dX7_init_64 : decode cX7_init 64 = .ok (.iconst 0, 1) := by decide +kernel
theorem dX7_init_65 : decode cX7_init 65 = .ok (.putfield 48, 3) := by decide +kernel
theorem dX7_init_68 : decode cX7_init 68 = .ok (.aload_n 0, 1) := by decide +kernel
theorem dX7_init_69 : decode cX7_init 69 = .ok (.iconst 0, 1) := by decide +kernel
theorem dX7_init_70 : decode cX7_init 70 = .ok (.putfield 51, 3) := by decide +kernel
theorem dX7_init_73 : decode cX7_init 73 = .ok (.return_, 1) := by decide +kernel
set_option maxRecDepth 20000 in
theorem ggX7_start_X0_makeEmpty : GoodIn wsX7_start wsX0_makeEmpty := goodIn_r _ [13, 14, 15, 16, 17, 40, 41, 42, 43, 44, 45, 46, 47, 48, 49] (by decide +kernel) (by decide +kernel)
set_option maxRecDepth 20000 in
theorem gX7_start_X0_makeEmpty : GoodIn wsX7_start (wsV RX7 54 RX0 yX0_makeEmpty wsX0_makeEmpty) := goodIn_app (goodIn_of _ (by decide +kernel)) ggX7_start_X0_makeEmpty
set_option maxRecDepth 20000 in
theorem ggX7_start_X4_forget : GoodIn wsX7_start wsX4_forget := goodIn_r _ [22, 23, 24, 50, 51, 52] (by decide +kernel) (by decide +kernel)
set_option maxRecDepth 20000 in
theorem gX7_start_X4_forget : GoodIn wsX7_start (wsV RX7 57 RX4 yX4_forget wsX4_forget) := goodIn_app (goodIn_of _ (by decide +kernel)) ggX7_start_X4_forget
set_option maxRecDepth 20000 in
theorem ggX7_start_X3_makeEmpty : GoodIn wsX7_start wsX3_makeEmpty := goodIn_r _ [29, 30, 53, 54, 55, 56, 57, 58, 59, 60, 61] (by decide +kernel) (by decide +kernel)
set_option maxRecDepth 20000 in
theorem gX7_start_X3_makeEmpty : GoodIn wsX7_start (wsV RX7 60 RX3 yX3_makeEmpty wsX3_makeEmpty) := goodIn_app (goodIn_of _ (by decide +kernel)) ggX7_start_X3_makeEmpty
theorem dX7_start_0 : decode cX7_start 0 = .ok (.aload_n 0, 1) := by decide +kernel
theorem dX7_start_1 : decode cX7_start 1 = .ok (.getfield 10, 3) := by decide +kernel
theorem dX7_start_4 : decode cX7_start 4 = .ok (.invokevirtual 54, 3) := by decide +kernel
theorem dX7_start_7 : decode cX7_start 7 = .ok (.aload_n 0, 1) := by decide +kernel
theorem dX7_start_8 : decode cX7_start 8 = .ok (.getfield 19, 3) := by decide +kernel
theorem dX7_start_11 : decode cX7_start 11 = .ok (.invokevirtual 57, 3) := by decide +kernel
theorem dX7_start_14 : decode cX7_start 14 = .ok (.aload_n 0, 1) := by decide +kernel
theorem dX7_start_15 : decode cX7_start 15 = .ok (.getfield 33, 3) := by decide +kernel
theorem dX7_start_18 : decode cX7_start 18 = .ok (.invokevirtual 60, 3) := by decide +kernel
theorem dX7_start_21 : decode cX7_start 21 = .ok (.aload_n 0, 1) := by decide +kernel
theorem dX7_start_22 : decode cX7_start 22 = .ok (.lconst 0, 1) := by decide +kernel
theorem dX7_start_23 : decode cX7_start 23 = .ok (.putfield 37, 3) := by decide +kernel
theorem dX7_start_26 : decode cX7_start 26 = .ok (.aload_n 0, 1) := by decide +kernel
theorem dX7_start_27 : decode cX7_start 27 = .ok (.iconst 0, 1) := by decide +kernel
theorem dX7_start_28 : decode cX7_start 28 = .ok (.putfield 41, 3) := by decide +kernel
theorem dX7_start_31 : decode cX7_start 31 = .ok (.aload_n 0, 1) := by decide +kernel
theorem dX7_start_32 : decode cX7_start 32 = .ok (.iconst 0, 1) := by decide +kernel
theorem dX7_start_33 : decode cX7_start 33 = .ok (.putfield 45, 3) := by decide +kernel
theorem dX7_start_36 : decode cX7_start 36 = .ok (.aload_n 0, 1) := by decide +kernel
theorem dX7_start_37 : decode cX7_start 37 = .ok (.iconst 0, 1) := by decide +kernel
theorem dX7_start_38 : decode cX7_start 38 = .ok (.putfield 48, 3) := by decide +kernel
theorem dX7_start_41 : decode cX7_start 41 = .ok (.aload_n 0, 1) := by decide +kernel
theorem dX7_start_42 : decode cX7_start 42 = .ok (.iconst 0, 1) := by decide +kernel
theorem dX7_start_43 : decode cX7_start 43 = .ok (.putfield 51, 3) := by decide +kernel
theorem dX7_start_46 : decode cX7_start 46 = .ok (.iconst 1, 1) := by decide +kernel
theorem dX7_start_47 : decode cX7_start 47 = .ok (.ireturn, 1) := by decide +kernel
set_option maxRecDepth 20000 in
theorem ggX7_type_X7_isWithin : GoodIn wsX7_type wsX7_isWithin := goodIn_r _ [5] (by decide +kernel) (by decide +kernel)
set_option maxRecDepth 20000 in
theorem gX7_type_X7_isWithin : GoodIn wsX7_type (va_wsS RX7 61 yX7_isWithin wsX7_isWithin) := goodIn_app (goodIn_of _ (by decide +kernel)) ggX7_type_X7_isWithin
set_option maxRecDepth 20000 in
theorem ggX7_type_X7_refuseBad : GoodIn wsX7_type wsX7_refuseBad := goodIn_r _ [9, 10, 33, 34, 35, 36, 37, 38, 39, 40, 41] (by decide +kernel) (by decide +kernel)
set_option maxRecDepth 20000 in
theorem gX7_type_X7_refuseBad : GoodIn wsX7_type (wsV RX7 65 RX7 yX7_refuseBad wsX7_refuseBad) := goodIn_app (goodIn_of _ (by decide +kernel)) ggX7_type_X7_refuseBad
set_option maxRecDepth 20000 in
theorem ggX7_type_X6_lengthOf : GoodIn wsX7_type wsX6_lengthOf := goodIn_r _ [14, 15, 16, 17, 18, 19, 20, 21, 22, 23] (by decide +kernel) (by decide +kernel)
set_option maxRecDepth 20000 in
theorem gX7_type_X6_lengthOf : GoodIn wsX7_type (va_wsS RX7 69 yX6_lengthOf wsX6_lengthOf) := goodIn_app (goodIn_of _ (by decide +kernel)) ggX7_type_X6_lengthOf
set_option maxRecDepth 20000 in
theorem ggX7_type_X7_refuseFull : GoodIn wsX7_type wsX7_refuseFull := goodIn_r _ [27, 28, 33, 34, 35, 36, 37, 38, 39, 40, 41] (by decide +kernel) (by decide +kernel)
set_option maxRecDepth 20000 in
theorem gX7_type_X7_refuseFull : GoodIn wsX7_type (wsV RX7 75 RX7 yX7_refuseFull wsX7_refuseFull) := goodIn_app (goodIn_of _ (by decide +kernel)) ggX7_type_X7_refuseFull
set_option maxRecDepth 20000 in
theorem ggX7_type_X6_longer : GoodIn wsX7_type wsX6_longer := goodIn_r _ [31, 32, 12, 13, 14, 15, 16, 17, 18, 19, 20, 21, 22, 23] (by decide +kernel) (by decide +kernel)
set_option maxRecDepth 20000 in
theorem gX7_type_X6_longer : GoodIn wsX7_type (va_wsS RX7 78 yX6_longer wsX6_longer) := goodIn_app (goodIn_of _ (by decide +kernel)) ggX7_type_X6_longer
theorem dX7_type_0 : decode cX7_type 0 = .ok (.iload_n 1, 1) := by decide +kernel
theorem dX7_type_1 : decode cX7_type 1 = .ok (.iconst 0, 1) := by decide +kernel
theorem dX7_type_2 : decode cX7_type 2 = .ok (.bipush 7, 2) := by decide +kernel
theorem dX7_type_4 : decode cX7_type 4 = .ok (.invokestatic 61, 3) := by decide +kernel
theorem dX7_type_7 : decode cX7_type 7 = .ok (.ifCond .ne 8, 3) := by decide +kernel
theorem dX7_type_10 : decode cX7_type 10 = .ok (.aload_n 0, 1) := by decide +kernel
theorem dX7_type_11 : decode cX7_type 11 = .ok (.invokevirtual 65, 3) := by decide +kernel
theorem dX7_type_14 : decode cX7_type 14 = .ok (.ireturn, 1) := by decide +kernel
theorem dX7_type_15 : decode cX7_type 15 = .ok (.aload_n 0, 1) := by decide +kernel
theorem dX7_type_16 : decode cX7_type 16 = .ok (.getfield 37, 3) := by decide +kernel
theorem dX7_type_19 : decode cX7_type 19 = .ok (.invokestatic 69, 3) := by decide +kernel
theorem dX7_type_22 : decode cX7_type 22 = .ok (.bipush 12, 2) := by decide +kernel
theorem dX7_type_24 : decode cX7_type 24 = .ok (.if_icmp .lt 8, 3) := by decide +kernel
theorem dX7_type_27 : decode cX7_type 27 = .ok (.aload_n 0, 1) := by decide +kernel
theorem dX7_type_28 : decode cX7_type 28 = .ok (.invokevirtual 75, 3) := by decide +kernel
theorem dX7_type_31 : decode cX7_type 31 = .ok (.ireturn, 1) := by decide +kernel
theorem dX7_type_32 : decode cX7_type 32 = .ok (.aload_n 0, 1) := by decide +kernel
theorem dX7_type_33 : decode cX7_type 33 = .ok (.aload_n 0, 1) := by decide +kernel
theorem dX7_type_34 : decode cX7_type 34 = .ok (.getfield 37, 3) := by decide +kernel
theorem dX7_type_37 : decode cX7_type 37 = .ok (.iload_n 1, 1) := by decide +kernel
theorem dX7_type_38 : decode cX7_type 38 = .ok (.invokestatic 78, 3) := by decide +kernel
theorem dX7_type_41 : decode cX7_type 41 = .ok (.putfield 37, 3) := by decide +kernel
theorem dX7_type_44 : decode cX7_type 44 = .ok (.aload_n 0, 1) := by decide +kernel
theorem dX7_type_45 : decode cX7_type 45 = .ok (.getfield 37, 3) := by decide +kernel
theorem dX7_type_48 : decode cX7_type 48 = .ok (.invokestatic 69, 3) := by decide +kernel
theorem dX7_type_51 : decode cX7_type 51 = .ok (.ireturn, 1) := by decide +kernel
set_option maxRecDepth 20000 in
theorem ggX7_rub_X6_lengthOf : GoodIn wsX7_rub wsX6_lengthOf := goodIn_r _ [5, 6, 7, 8, 9, 10, 11, 12, 13, 14] (by decide +kernel) (by decide +kernel)
set_option maxRecDepth 20000 in
theorem gX7_rub_X6_lengthOf : GoodIn wsX7_rub (va_wsS RX7 69 yX6_lengthOf wsX6_lengthOf) := goodIn_app (goodIn_of _ (by decide +kernel)) ggX7_rub_X6_lengthOf
set_option maxRecDepth 20000 in
theorem ggX7_rub_X7_refuseNo : GoodIn wsX7_rub wsX7_refuseNo := goodIn_r _ [19, 20, 27, 28, 29, 30, 31, 32, 33, 34, 35] (by decide +kernel) (by decide +kernel)
set_option maxRecDepth 20000 in
theorem gX7_rub_X7_refuseNo : GoodIn wsX7_rub (wsV RX7 82 RX7 yX7_refuseNo wsX7_refuseNo) := goodIn_app (goodIn_of _ (by decide +kernel)) ggX7_rub_X7_refuseNo
set_option maxRecDepth 20000 in
theorem ggX7_rub_X6_beginning : GoodIn wsX7_rub wsX6_beginning := goodIn_r _ [23, 24, 25, 4, 26] (by decide +kernel) (by decide +kernel)
set_option maxRecDepth 20000 in
theorem gX7_rub_X6_beginning : GoodIn wsX7_rub (va_wsS RX7 85 yX6_beginning wsX6_beginning) := goodIn_app (goodIn_of _ (by decide +kernel)) ggX7_rub_X6_beginning
theorem dX7_rub_0 : decode cX7_rub 0 = .ok (.aload_n 0, 1) := by decide +kernel
theorem dX7_rub_1 : decode cX7_rub 1 = .ok (.getfield 37, 3) := by decide +kernel
theorem dX7_rub_4 : decode cX7_rub 4 = .ok (.invokestatic 69, 3) := by decide +kernel
theorem dX7_rub_7 : decode cX7_rub 7 = .ok (.istore_n 1, 1) := by decide +kernel
theorem dX7_rub_8 : decode cX7_rub 8 = .ok (.iload_n 1, 1) := by decide +kernel
theorem dX7_rub_9 : decode cX7_rub 9 = .ok (.ifCond .ne 8, 3) := by decide +kernel
theorem dX7_rub_12 : decode cX7_rub 12 = .ok (.aload_n 0, 1) := by decide +kernel
theorem dX7_rub_13 : decode cX7_rub 13 = .ok (.invokevirtual 82, 3) := by decide +kernel
theorem dX7_rub_16 : decode cX7_rub 16 = .ok (.ireturn, 1) := by decide +kernel
theorem dX7_rub_17 : decode cX7_rub 17 = .ok (.aload_n 0, 1) := by decide +kernel
theorem dX7_rub_18 : decode cX7_rub 18 = .ok (.aload_n 0, 1) := by decide +kernel
theorem dX7_rub_19 : decode cX7_rub 19 = .ok (.getfield 37, 3) := by decide +kernel
theorem dX7_rub_22 : decode cX7_rub 22 = .ok (.iload_n 1, 1) := by decide +kernel
theorem dX7_rub_23 : decode cX7_rub 23 = .ok (.iconst 1, 1) := by decide +kernel
theorem dX7_rub_24 : decode cX7_rub 24 = .ok (.isub, 1) := by decide +kernel
theorem dX7_rub_25 : decode cX7_rub 25 = .ok (.invokestatic 85, 3) := by decide +kernel
theorem dX7_rub_28 : decode cX7_rub 28 = .ok (.putfield 37, 3) := by decide +kernel
theorem dX7_rub_31 : decode cX7_rub 31 = .ok (.iload_n 1, 1) := by decide +kernel
theorem dX7_rub_32 : decode cX7_rub 32 = .ok (.iconst 1, 1) := by decide +kernel
theorem dX7_rub_33 : decode cX7_rub 33 = .ok (.isub, 1) := by decide +kernel
theorem dX7_rub_34 : decode cX7_rub 34 = .ok (.ireturn, 1) := by decide +kernel
set_option maxRecDepth 20000 in
theorem ggX7_types_X0_slotOf : GoodIn wsX7_types wsX0_slotOf := goodIn_r _ [8, 9, 10, 48, 49, 50, 51, 52, 53, 54, 55, 56, 57] (by decide +kernel) (by decide +kernel)
set_option maxRecDepth 20000 in
theorem gX7_types_X0_slotOf : GoodIn wsX7_types (wsV RX7 88 RX0 yX0_slotOf wsX0_slotOf) := goodIn_app (goodIn_of _ (by decide +kernel)) ggX7_types_X0_slotOf
set_option maxRecDepth 20000 in
theorem ggX7_types_X6_lengthOf : GoodIn wsX7_types wsX6_lengthOf := goodIn_r _ [14, 15, 16, 17, 18, 19, 20, 21, 22, 23] (by decide +kernel) (by decide +kernel)
set_option maxRecDepth 20000 in
theorem gX7_types_X6_lengthOf : GoodIn wsX7_types (va_wsS RX7 69 yX6_lengthOf wsX6_lengthOf) := goodIn_app (goodIn_of _ (by decide +kernel)) ggX7_types_X6_lengthOf
set_option maxRecDepth 20000 in
theorem ggX7_types_X7_isWithin : GoodIn wsX7_types wsX7_isWithin := goodIn_r _ [27] (by decide +kernel) (by decide +kernel)
set_option maxRecDepth 20000 in
theorem gX7_types_X7_isWithin : GoodIn wsX7_types (va_wsS RX7 61 yX7_isWithin wsX7_isWithin) := goodIn_app (goodIn_of _ (by decide +kernel)) ggX7_types_X7_isWithin
set_option maxRecDepth 20000 in
theorem ggX7_types_X7_refuseBad : GoodIn wsX7_types wsX7_refuseBad := goodIn_r _ [31, 32, 39, 40, 41, 42, 43, 44, 45, 46, 47] (by decide +kernel) (by decide +kernel)
set_option maxRecDepth 20000 in
theorem gX7_types_X7_refuseBad : GoodIn wsX7_types (wsV RX7 65 RX7 yX7_refuseBad wsX7_refuseBad) := goodIn_app (goodIn_of _ (by decide +kernel)) ggX7_types_X7_refuseBad
set_option maxRecDepth 20000 in
theorem ggX7_types_X6_beginning : GoodIn wsX7_types wsX6_beginning := goodIn_r _ [35, 36, 37, 13, 38] (by decide +kernel) (by decide +kernel)
set_option maxRecDepth 20000 in
theorem gX7_types_X6_beginning : GoodIn wsX7_types (va_wsS RX7 85 yX6_beginning wsX6_beginning) := goodIn_app (goodIn_of _ (by decide +kernel)) ggX7_types_X6_beginning
theorem dX7_types_0 : decode cX7_types 0 = .ok (.aload_n 0, 1) := by decide +kernel
theorem dX7_types_1 : decode cX7_types 1 = .ok (.getfield 10, 3) := by decide +kernel
theorem dX7_types_4 : decode cX7_types 4 = .ok (.iload_n 1, 1) := by decide +kernel
theorem dX7_types_5 : decode cX7_types 5 = .ok (.invokevirtual 88, 3) := by decide +kernel
theorem dX7_types_8 : decode cX7_types 8 = .ok (.istore_n 3, 1) := by decide +kernel
theorem dX7_types_9 : decode cX7_types 9 = .ok (.iload_n 3, 1) := by decide +kernel
theorem dX7_types_10 : decode cX7_types 10 = .ok (.iconst (-1), 1) := by decide +kernel
theorem dX7_types_11 : decode cX7_types 11 = .ok (.if_icmp .eq 23, 3) := by decide +kernel
theorem dX7_types_14 : decode cX7_types 14 = .ok (.iload_n 2, 1) := by decide +kernel
theorem dX7_types_15 : decode cX7_types 15 = .ok (.iconst 0, 1) := by decide +kernel
theorem dX7_types_16 : decode cX7_types 16 = .ok (.aload_n 0, 1) := by decide +kernel
theorem dX7_types_17 : decode cX7_types 17 = .ok (.getfield 10, 3) := by decide +kernel
theorem dX7_types_20 : decode cX7_types 20 = .ok (.getfield 92, 3) := by decide +kernel
theorem dX7_types_23 : decode cX7_types 23 = .ok (.iload_n 3, 1) := by decide +kernel
theorem dX7_types_24 : decode cX7_types 24 = .ok (.laload, 1) := by decide +kernel
theorem dX7_types_25 : decode cX7_types 25 = .ok (.invokestatic 69, 3) := by decide +kernel
theorem dX7_types_28 : decode cX7_types 28 = .ok (.invokestatic 61, 3) := by decide +kernel
theorem dX7_types_31 : decode cX7_types 31 = .ok (.ifCond .ne 8, 3) := by decide +kernel
theorem dX7_types_34 : decode cX7_types 34 = .ok (.aload_n 0, 1) := by decide +kernel
theorem dX7_types_35 : decode cX7_types 35 = .ok (.invokevirtual 65, 3) := by decide +kernel
theorem dX7_types_38 : decode cX7_types 38 = .ok (.ireturn, 1) := by decide +kernel
theorem dX7_types_39 : decode cX7_types 39 = .ok (.aload_n 0, 1) := by decide +kernel
theorem dX7_types_40 : decode cX7_types 40 = .ok (.aload_n 0, 1) := by decide +kernel
theorem dX7_types_41 : decode cX7_types 41 = .ok (.getfield 10, 3) := by decide +kernel
theorem dX7_types_44 : decode cX7_types 44 = .ok (.getfield 92, 3) := by decide +kernel
theorem dX7_types_47 : decode cX7_types 47 = .ok (.iload_n 3, 1) := by decide +kernel
theorem dX7_types_48 : decode cX7_types 48 = .ok (.laload, 1) := by decide +kernel
theorem dX7_types_49 : decode cX7_types 49 = .ok (.iload_n 2, 1) := by decide +kernel
theorem dX7_types_50 : decode cX7_types 50 = .ok (.invokestatic 85, 3) := by decide +kernel
theorem dX7_types_53 : decode cX7_types 53 = .ok (.putfield 37, 3) := by decide +kernel
theorem dX7_types_56 : decode cX7_types 56 = .ok (.iload_n 2, 1) := by decide +kernel
theorem dX7_types_57 : decode cX7_types 57 = .ok (.ireturn, 1) := by decide +kernel
set_option maxRecDepth 20000 in
theorem ggX7_clear_X6_lengthOf : GoodIn wsX7_clear wsX6_lengthOf := goodIn_r _ [5, 6, 7, 8, 9, 10, 11, 12, 13, 14] (by decide +kernel) (by decide +kernel)
set_option maxRecDepth 20000 in
theorem gX7_clear_X6_lengthOf : GoodIn wsX7_clear (va_wsS RX7 69 yX6_lengthOf wsX6_lengthOf) := goodIn_app (goodIn_of _ (by decide +kernel)) ggX7_clear_X6_lengthOf
theorem dX7_clear_0 : decode cX7_clear 0 = .ok (.aload_n 0, 1) := by decide +kernel
theorem dX7_clear_1 : decode cX7_clear 1 = .ok (.getfield 37, 3) := by decide +kernel
theorem dX7_clear_4 : decode cX7_clear 4 = .ok (.invokestatic 69, 3) := by decide +kernel
theorem dX7_clear_7 : decode cX7_clear 7 = .ok (.istore_n 1, 1) := by decide +kernel
theorem dX7_clear_8 : decode cX7_clear 8 = .ok (.aload_n 0, 1) := by decide +kernel
theorem dX7_clear_9 : decode cX7_clear 9 = .ok (.lconst 0, 1) := by decide +kernel
theorem dX7_clear_10 : decode cX7_clear 10 = .ok (.putfield 37, 3) := by decide +kernel
theorem dX7_clear_13 : decode cX7_clear 13 = .ok (.iload_n 1, 1) := by decide +kernel
theorem dX7_clear_14 : decode cX7_clear 14 = .ok (.ireturn, 1) := by decide +kernel
set_option maxRecDepth 20000 in
theorem ggX7_adds_X7_isWithin : GoodIn wsX7_adds wsX7_isWithin := goodIn_r _ [7] (by decide +kernel) (by decide +kernel)
set_option maxRecDepth 20000 in
theorem gX7_adds_X7_isWithin : GoodIn wsX7_adds (va_wsS RX7 61 yX7_isWithin wsX7_isWithin) := goodIn_app (goodIn_of _ (by decide +kernel)) ggX7_adds_X7_isWithin
set_option maxRecDepth 20000 in
theorem ggX7_adds_X7_refuseBad : GoodIn wsX7_adds wsX7_refuseBad := goodIn_r _ [11, 12, 80, 81, 82, 83, 84, 85, 86, 87, 88] (by decide +kernel) (by decide +kernel)
set_option maxRecDepth 20000 in
theorem gX7_adds_X7_refuseBad : GoodIn wsX7_adds (wsV RX7 65 RX7 yX7_refuseBad wsX7_refuseBad) := goodIn_app (goodIn_of _ (by decide +kernel)) ggX7_adds_X7_refuseBad
set_option maxRecDepth 20000 in
theorem ggX7_adds_X6_lengthOf : GoodIn wsX7_adds wsX6_lengthOf := goodIn_r _ [16, 17, 18, 19, 20, 21, 22, 23, 24, 25] (by decide +kernel) (by decide +kernel)
set_option maxRecDepth 20000 in
theorem gX7_adds_X6_lengthOf : GoodIn wsX7_adds (va_wsS RX7 69 yX6_lengthOf wsX6_lengthOf) := goodIn_app (goodIn_of _ (by decide +kernel)) ggX7_adds_X6_lengthOf
set_option maxRecDepth 20000 in
theorem ggX7_adds_X0_slotSpelled : GoodIn wsX7_adds wsX0_slotSpelled := goodIn_r _ [30, 31, 32, 89, 90, 91, 92, 93, 94, 95, 96, 97, 98] (by decide +kernel) (by decide +kernel)
set_option maxRecDepth 20000 in
theorem gX7_adds_X0_slotSpelled : GoodIn wsX7_adds (wsV RX7 96 RX0 yX0_slotSpelled wsX0_slotSpelled) := goodIn_app (goodIn_of _ (by decide +kernel)) ggX7_adds_X0_slotSpelled
set_option maxRecDepth 20000 in
theorem ggX7_adds_X7_refuseNo : GoodIn wsX7_adds wsX7_refuseNo := goodIn_r _ [36, 37, 80, 81, 82, 83, 84, 85, 86, 87, 88] (by decide +kernel) (by decide +kernel)
set_option maxRecDepth 20000 in
theorem gX7_adds_X7_refuseNo : GoodIn wsX7_adds (wsV RX7 82 RX7 yX7_refuseNo wsX7_refuseNo) := goodIn_app (goodIn_of _ (by decide +kernel)) ggX7_adds_X7_refuseNo
set_option maxRecDepth 20000 in
theorem ggX7_adds_X0_hasRoom : GoodIn wsX7_adds wsX0_hasRoom := goodIn_r _ [41, 31, 42, 89, 90, 91, 92, 93, 94, 95, 96, 97, 98] (by decide +kernel) (by decide +kernel)
set_option maxRecDepth 20000 in
theorem gX7_adds_X0_hasRoom : GoodIn wsX7_adds (wsV RX7 99 RX0 yX0_hasRoom wsX0_hasRoom) := goodIn_app (goodIn_of _ (by decide +kernel)) ggX7_adds_X0_hasRoom
set_option maxRecDepth 20000 in
theorem ggX7_adds_X7_refuseFull : GoodIn wsX7_adds wsX7_refuseFull := goodIn_r _ [46, 47, 80, 81, 82, 83, 84, 85, 86, 87, 88] (by decide +kernel) (by decide +kernel)
set_option maxRecDepth 20000 in
theorem gX7_adds_X7_refuseFull : GoodIn wsX7_adds (wsV RX7 75 RX7 yX7_refuseFull wsX7_refuseFull) := goodIn_app (goodIn_of _ (by decide +kernel)) ggX7_adds_X7_refuseFull
set_option maxRecDepth 20000 in
theorem ggX7_adds_X4_remember : GoodIn wsX7_adds wsX4_remember := goodIn_r _ [52, 53, 54, 55, 56, 57, 58, 59, 60, 61, 62, 29, 63, 31, 42, 64, 65, 66, 67, 68, 69, 70, 32, 71, 72, 73, 74, 99, 100, 101, 89, 90, 91, 92, 93, 94, 95, 96, 97, 98] (by decide +kernel) (by decide +kernel)
set_option maxRecDepth 20000 in
theorem gX7_adds_X4_remember : GoodIn wsX7_adds (wsV RX7 103 RX4 yX4_remember wsX4_remember) := goodIn_app (goodIn_of _ (by decide +kernel)) ggX7_adds_X4_remember
set_option maxRecDepth 20000 in
theorem ggX7_adds_X0_append : GoodIn wsX7_adds wsX0_append := goodIn_r _ [78, 70, 31, 42, 32, 71, 72, 73, 74, 79, 39, 40, 29, 41, 89, 90, 91, 92, 93, 94, 95, 96, 97, 98] (by decide +kernel) (by decide +kernel)
set_option maxRecDepth 20000 in
theorem gX7_adds_X0_append : GoodIn wsX7_adds (wsV RX7 107 RX0 yX0_append wsX0_append) := goodIn_app (goodIn_of _ (by decide +kernel)) ggX7_adds_X0_append
theorem dX7_adds_0 : decode cX7_adds 0 = .ok (.iload_n 1, 1) := by decide +kernel
theorem dX7_adds_1 : decode cX7_adds 1 = .ok (.iconst 0, 1) := by decide +kernel
theorem dX7_adds_2 : decode cX7_adds 2 = .ok (.sipush 1000, 3) := by decide +kernel
theorem dX7_adds_5 : decode cX7_adds 5 = .ok (.invokestatic 61, 3) := by decide +kernel
theorem dX7_adds_8 : decode cX7_adds 8 = .ok (.ifCond .eq 13, 3) := by decide +kernel
theorem dX7_adds_11 : decode cX7_adds 11 = .ok (.iload_n 2, 1) := by decide +kernel
theorem dX7_adds_12 : decode cX7_adds 12 = .ok (.iconst 0, 1) := by decide +kernel
theorem dX7_adds_13 : decode cX7_adds 13 = .ok (.bipush 9, 2) := by decide +kernel
theorem dX7_adds_15 : decode cX7_adds 15 = .ok (.invokestatic 61, 3) := by decide +kernel
theorem dX7_adds_18 : decode cX7_adds 18 = .ok (.ifCond .ne 8, 3) := by decide +kernel
theorem dX7_adds_21 : decode cX7_adds 21 = .ok (.aload_n 0, 1) := by decide +kernel
theorem dX7_adds_22 : decode cX7_adds 22 = .ok (.invokevirtual 65, 3) := by decide +kernel
theorem dX7_adds_25 : decode cX7_adds 25 = .ok (.ireturn, 1) := by decide +kernel
theorem dX7_adds_26 : decode cX7_adds 26 = .ok (.aload_n 0, 1) := by decide +kernel
theorem dX7_adds_27 : decode cX7_adds 27 = .ok (.getfield 37, 3) := by decide +kernel
theorem dX7_adds_30 : decode cX7_adds 30 = .ok (.invokestatic 69, 3) := by decide +kernel
theorem dX7_adds_33 : decode cX7_adds 33 = .ok (.iconst 1, 1) := by decide +kernel
theorem dX7_adds_34 : decode cX7_adds 34 = .ok (.bipush 8, 2) := by decide +kernel
theorem dX7_adds_36 : decode cX7_adds 36 = .ok (.invokestatic 61, 3) := by decide +kernel
theorem dX7_adds_39 : decode cX7_adds 39 = .ok (.ifCond .eq 18, 3) := by decide +kernel
theorem dX7_adds_42 : decode cX7_adds 42 = .ok (.aload_n 0, 1) := by decide +kernel
theorem dX7_adds_43 : decode cX7_adds 43 = .ok (.getfield 10, 3) := by decide +kernel
theorem dX7_adds_46 : decode cX7_adds 46 = .ok (.aload_n 0, 1) := by decide +kernel
theorem dX7_adds_47 : decode cX7_adds 47 = .ok (.getfield 37, 3) := by decide +kernel
theorem dX7_adds_50 : decode cX7_adds 50 = .ok (.invokevirtual 96, 3) := by decide +kernel
theorem dX7_adds_53 : decode cX7_adds 53 = .ok (.iconst (-1), 1) := by decide +kernel
theorem dX7_adds_54 : decode cX7_adds 54 = .ok (.if_icmp .eq 8, 3) := by decide +kernel
theorem dX7_adds_57 : decode cX7_adds 57 = .ok (.aload_n 0, 1) := by decide +kernel
theorem dX7_adds_58 : decode cX7_adds 58 = .ok (.invokevirtual 82, 3) := by decide +kernel
theorem dX7_adds_61 : decode cX7_adds 61 = .ok (.ireturn, 1) := by decide +kernel
theorem dX7_adds_62 : decode cX7_adds 62 = .ok (.aload_n 0, 1) := by decide +kernel
theorem dX7_adds_63 : decode cX7_adds 63 = .ok (.getfield 10, 3) := by decide +kernel
theorem dX7_adds_66 : decode cX7_adds 66 = .ok (.invokevirtual 99, 3) := by decide +kernel
theorem dX7_adds_69 : decode cX7_adds 69 = .ok (.ifCond .ne 8, 3) := by decide +kernel
theorem dX7_adds_72 : decode cX7_adds 72 = .ok (.aload_n 0, 1) := by decide +kernel
theorem dX7_adds_73 : decode cX7_adds 73 = .ok (.invokevirtual 75, 3) := by decide +kernel
theorem dX7_adds_76 : decode cX7_adds 76 = .ok (.ireturn, 1) := by decide +kernel
theorem dX7_adds_77 : decode cX7_adds 77 = .ok (.aload_n 0, 1) := by decide +kernel
theorem dX7_adds_78 : decode cX7_adds 78 = .ok (.getfield 19, 3) := by decide +kernel
theorem dX7_adds_81 : decode cX7_adds 81 = .ok (.aload_n 0, 1) := by decide +kernel
theorem dX7_adds_82 : decode cX7_adds 82 = .ok (.getfield 10, 3) := by decide +kernel
theorem dX7_adds_85 : decode cX7_adds 85 = .ok (.invokevirtual 103, 3) := by decide +kernel
theorem dX7_adds_88 : decode cX7_adds 88 = .ok (.aload_n 0, 1) := by decide +kernel
theorem dX7_adds_89 : decode cX7_adds 89 = .ok (.getfield 10, 3) := by decide +kernel
theorem dX7_adds_92 : decode cX7_adds 92 = .ok (.aload_n 0, 1) := by decide +kernel
theorem dX7_adds_93 : decode cX7_adds 93 = .ok (.getfield 37, 3) := by decide +kernel
theorem dX7_adds_96 : decode cX7_adds 96 = .ok (.iload_n 1, 1) := by decide +kernel
theorem dX7_adds_97 : decode cX7_adds 97 = .ok (.iload_n 2, 1) := by decide +kernel
theorem dX7_adds_98 : decode cX7_adds 98 = .ok (.invokevirtual 107, 3) := by decide +kernel
theorem dX7_adds_101 : decode cX7_adds 101 = .ok (.istore_n 3, 1) := by decide +kernel
theorem dX7_adds_102 : decode cX7_adds 102 = .ok (.aload_n 0, 1) := by decide +kernel
theorem dX7_adds_103 : decode cX7_adds 103 = .ok (.lconst 0, 1) := by decide +kernel
theorem dX7_adds_104 : decode cX7_adds 104 = .ok (.putfield 37, 3) := by decide +kernel
theorem dX7_adds_107 : decode cX7_adds 107 = .ok (.iload_n 3, 1) := by decide +kernel
theorem dX7_adds_108 : decode cX7_adds 108 = .ok (.ireturn, 1) := by decide +kernel
set_option maxRecDepth 20000 in
theorem ggX7_of_X0_slotOf : GoodIn wsX7_of wsX0_slotOf := goodIn_r _ [6, 7, 8, 49, 50, 51, 52, 53, 54, 55, 56, 57, 58] (by decide +kernel) (by decide +kernel)
set_option maxRecDepth 20000 in
theorem gX7_of_X0_slotOf : GoodIn wsX7_of (wsV RX7 88 RX0 yX0_slotOf wsX0_slotOf) := goodIn_app (goodIn_of _ (by decide +kernel)) ggX7_of_X0_slotOf
set_option maxRecDepth 20000 in
theorem ggX7_of_X7_isWithin : GoodIn wsX7_of wsX7_isWithin := goodIn_r _ [12] (by decide +kernel) (by decide +kernel)
set_option maxRecDepth 20000 in
theorem gX7_of_X7_isWithin : GoodIn wsX7_of (va_wsS RX7 61 yX7_isWithin wsX7_isWithin) := goodIn_app (goodIn_of _ (by decide +kernel)) ggX7_of_X7_isWithin
set_option maxRecDepth 20000 in
theorem ggX7_of_X7_refuseBad : GoodIn wsX7_of wsX7_refuseBad := goodIn_r _ [16, 17, 40, 41, 42, 43, 44, 45, 46, 47, 48] (by decide +kernel) (by decide +kernel)
set_option maxRecDepth 20000 in
theorem gX7_of_X7_refuseBad : GoodIn wsX7_of (wsV RX7 65 RX7 yX7_refuseBad wsX7_refuseBad) := goodIn_app (goodIn_of _ (by decide +kernel)) ggX7_of_X7_refuseBad
set_option maxRecDepth 20000 in
theorem ggX7_of_X0_detail : GoodIn wsX7_of wsX0_detail := goodIn_r _ [21, 22, 23, 24, 25, 26, 27, 28, 29, 30, 31, 32, 33, 34, 35, 36, 37, 38, 39, 49, 50, 51, 52, 53, 54, 55, 56, 57, 58] (by decide +kernel) (by decide +kernel)
set_option maxRecDepth 20000 in
theorem gX7_of_X0_detail : GoodIn wsX7_of (wsV RX7 111 RX0 yX0_detail wsX0_detail) := goodIn_app (goodIn_of _ (by decide +kernel)) ggX7_of_X0_detail
theorem dX7_of_0 : decode cX7_of 0 = .ok (.aload_n 0, 1) := by decide +kernel
theorem dX7_of_1 : decode cX7_of 1 = .ok (.getfield 10, 3) := by decide +kernel
theorem dX7_of_4 : decode cX7_of 4 = .ok (.iload_n 1, 1) := by decide +kernel
theorem dX7_of_5 : decode cX7_of 5 = .ok (.invokevirtual 88, 3) := by decide +kernel
theorem dX7_of_8 : decode cX7_of 8 = .ok (.istore_n 3, 1) := by decide +kernel
theorem dX7_of_9 : decode cX7_of 9 = .ok (.iload_n 3, 1) := by decide +kernel
theorem dX7_of_10 : decode cX7_of 10 = .ok (.iconst (-1), 1) := by decide +kernel
theorem dX7_of_11 : decode cX7_of 11 = .ok (.if_icmp .eq 12, 3) := by decide +kernel
theorem dX7_of_14 : decode cX7_of 14 = .ok (.iload_n 2, 1) := by decide +kernel
theorem dX7_of_15 : decode cX7_of 15 = .ok (.iconst 0, 1) := by decide +kernel
theorem dX7_of_16 : decode cX7_of 16 = .ok (.iconst 4, 1) := by decide +kernel
theorem dX7_of_17 : decode cX7_of 17 = .ok (.invokestatic 61, 3) := by decide +kernel
theorem dX7_of_20 : decode cX7_of 20 = .ok (.ifCond .ne 8, 3) := by decide +kernel
theorem dX7_of_23 : decode cX7_of 23 = .ok (.aload_n 0, 1) := by decide +kernel
theorem dX7_of_24 : decode cX7_of 24 = .ok (.invokevirtual 65, 3) := by decide +kernel
theorem dX7_of_27 : decode cX7_of 27 = .ok (.ireturn, 1) := by decide +kernel
theorem dX7_of_28 : decode cX7_of 28 = .ok (.aload_n 0, 1) := by decide +kernel
theorem dX7_of_29 : decode cX7_of 29 = .ok (.getfield 10, 3) := by decide +kernel
theorem dX7_of_32 : decode cX7_of 32 = .ok (.iload_n 3, 1) := by decide +kernel
theorem dX7_of_33 : decode cX7_of 33 = .ok (.iload_n 2, 1) := by decide +kernel
theorem dX7_of_34 : decode cX7_of 34 = .ok (.invokevirtual 111, 3) := by decide +kernel
theorem dX7_of_37 : decode cX7_of 37 = .ok (.ireturn, 1) := by decide +kernel
set_option maxRecDepth 20000 in
theorem ggX7_letter_X0_slotOf : GoodIn wsX7_letter wsX0_slotOf := goodIn_r _ [7, 8, 9, 42, 43, 44, 45, 46, 47, 48, 49, 50, 51] (by decide +kernel) (by decide +kernel)
set_option maxRecDepth 20000 in
theorem gX7_letter_X0_slotOf : GoodIn wsX7_letter (wsV RX7 88 RX0 yX0_slotOf wsX0_slotOf) := goodIn_app (goodIn_of _ (by decide +kernel)) ggX7_letter_X0_slotOf
set_option maxRecDepth 20000 in
theorem ggX7_letter_X7_refuseBad : GoodIn wsX7_letter wsX7_refuseBad := goodIn_r _ [14, 15, 33, 34, 35, 36, 37, 38, 39, 40, 41] (by decide +kernel) (by decide +kernel)
set_option maxRecDepth 20000 in
theorem gX7_letter_X7_refuseBad : GoodIn wsX7_letter (wsV RX7 65 RX7 yX7_refuseBad wsX7_refuseBad) := goodIn_app (goodIn_of _ (by decide +kernel)) ggX7_letter_X7_refuseBad
set_option maxRecDepth 20000 in
theorem ggX7_letter_X6_lengthOf : GoodIn wsX7_letter wsX6_lengthOf := goodIn_r _ [19, 20, 21, 22, 23, 24, 25, 26, 27, 28] (by decide +kernel) (by decide +kernel)
set_option maxRecDepth 20000 in
theorem gX7_letter_X6_lengthOf : GoodIn wsX7_letter (va_wsS RX7 69 yX6_lengthOf wsX6_lengthOf) := goodIn_app (goodIn_of _ (by decide +kernel)) ggX7_letter_X6_lengthOf
set_option maxRecDepth 20000 in
theorem ggX7_letter_X6_letterAt : GoodIn wsX7_letter wsX6_letterAt := goodIn_r _ [31, 32] (by decide +kernel) (by decide +kernel)
set_option maxRecDepth 20000 in
theorem gX7_letter_X6_letterAt : GoodIn wsX7_letter (va_wsS RX7 115 yX6_letterAt wsX6_letterAt) := goodIn_app (goodIn_of _ (by decide +kernel)) ggX7_letter_X6_letterAt
theorem dX7_letter_0 : decode cX7_letter 0 = .ok (.aload_n 0, 1) := by decide +kernel
theorem dX7_letter_1 : decode cX7_letter 1 = .ok (.getfield 10, 3) := by decide +kernel
theorem dX7_letter_4 : decode cX7_letter 4 = .ok (.iload_n 1, 1) := by decide +kernel
theorem dX7_letter_5 : decode cX7_letter 5 = .ok (.invokevirtual 88, 3) := by decide +kernel
theorem dX7_letter_8 : decode cX7_letter 8 = .ok (.istore_n 3, 1) := by decide +kernel
theorem dX7_letter_9 : decode cX7_letter 9 = .ok (.iload_n 3, 1) := by decide +kernel
theorem dX7_letter_10 : decode cX7_letter 10 = .ok (.iconst (-1), 1) := by decide +kernel
theorem dX7_letter_11 : decode cX7_letter 11 = .ok (.if_icmp .eq 7, 3) := by decide +kernel
theorem dX7_letter_14 : decode cX7_letter 14 = .ok (.iload_n 2, 1) := by decide +kernel
theorem dX7_letter_15 : decode cX7_letter 15 = .ok (.ifCond .ge 8, 3) := by decide +kernel
theorem dX7_letter_18 : decode cX7_letter 18 = .ok (.aload_n 0, 1) := by decide +kernel
theorem dX7_letter_19 : decode cX7_letter 19 = .ok (.invokevirtual 65, 3) := by decide +kernel
theorem dX7_letter_22 : decode cX7_letter 22 = .ok (.ireturn, 1) := by decide +kernel
theorem dX7_letter_23 : decode cX7_letter 23 = .ok (.iload_n 2, 1) := by decide +kernel
theorem dX7_letter_24 : decode cX7_letter 24 = .ok (.aload_n 0, 1) := by decide +kernel
theorem dX7_letter_25 : decode cX7_letter 25 = .ok (.getfield 10, 3) := by decide +kernel
theorem dX7_letter_28 : decode cX7_letter 28 = .ok (.getfield 92, 3) := by decide +kernel
theorem dX7_letter_31 : decode cX7_letter 31 = .ok (.iload_n 3, 1) := by decide +kernel
theorem dX7_letter_32 : decode cX7_letter 32 = .ok (.laload, 1) := by decide +kernel
theorem dX7_letter_33 : decode cX7_letter 33 = .ok (.invokestatic 69, 3) := by decide +kernel
theorem dX7_letter_36 : decode cX7_letter 36 = .ok (.if_icmp .lt 5, 3) := by decide +kernel
theorem dX7_letter_39 : decode cX7_letter 39 = .ok (.iconst (-1), 1) := by decide +kernel
theorem dX7_letter_40 : decode cX7_letter 40 = .ok (.ireturn, 1) := by decide +kernel
theorem dX7_letter_41 : decode cX7_letter 41 = .ok (.aload_n 0, 1) := by decide +kernel
theorem dX7_letter_42 : decode cX7_letter 42 = .ok (.getfield 10, 3) := by decide +kernel
theorem dX7_letter_45 : decode cX7_letter 45 = .ok (.getfield 92, 3) := by decide +kernel
theorem dX7_letter_48 : decode cX7_letter 48 = .ok (.iload_n 3, 1) := by decide +kernel
theorem dX7_letter_49 : decode cX7_letter 49 = .ok (.laload, 1) := by decide +kernel
theorem dX7_letter_50 : decode cX7_letter 50 = .ok (.iload_n 2, 1) := by decide +kernel
theorem dX7_letter_51 : decode cX7_letter 51 = .ok (.invokestatic 115, 3) := by decide +kernel
theorem dX7_letter_54 : decode cX7_letter 54 = .ok (.ireturn, 1) := by decide +kernel
set_option maxRecDepth 20000 in
theorem ggX7_use_X0_slotOf : GoodIn wsX7_use wsX0_slotOf := goodIn_r _ [7, 8, 9, 74, 75, 76, 77, 78, 79, 80, 81, 82, 83] (by decide +kernel) (by decide +kernel)
set_option maxRecDepth 20000 in
theorem gX7_use_X0_slotOf : GoodIn wsX7_use (wsV RX7 88 RX0 yX0_slotOf wsX0_slotOf) := goodIn_app (goodIn_of _ (by decide +kernel)) ggX7_use_X0_slotOf
set_option maxRecDepth 20000 in
theorem ggX7_use_X7_refuseBad : GoodIn wsX7_use wsX7_refuseBad := goodIn_r _ [14, 15, 65, 66, 67, 68, 69, 70, 71, 72, 73] (by decide +kernel) (by decide +kernel)
set_option maxRecDepth 20000 in
theorem gX7_use_X7_refuseBad : GoodIn wsX7_use (wsV RX7 65 RX7 yX7_refuseBad wsX7_refuseBad) := goodIn_app (goodIn_of _ (by decide +kernel)) ggX7_use_X7_refuseBad
set_option maxRecDepth 20000 in
theorem ggX7_use_X4_remember : GoodIn wsX7_use wsX4_remember := goodIn_r _ [20, 21, 22, 23, 24, 25, 26, 27, 28, 29, 30, 6, 31, 8, 32, 33, 34, 35, 36, 37, 38, 9, 39, 40, 41, 42, 43, 84, 85, 86, 74, 75, 76, 77, 78, 79, 80, 81, 82, 83] (by decide +kernel) (by decide +kernel)
set_option maxRecDepth 20000 in
theorem gX7_use_X4_remember : GoodIn wsX7_use (wsV RX7 103 RX4 yX4_remember wsX4_remember) := goodIn_app (goodIn_of _ (by decide +kernel)) ggX7_use_X4_remember
set_option maxRecDepth 20000 in
theorem ggX7_use_X7_choose : GoodIn wsX7_use wsX7_choose := goodIn_r _ [47, 48, 49, 25, 26, 27, 1, 50, 51, 52, 53, 54, 55, 56, 57, 58, 59, 60, 61, 62, 63, 64, 65, 66, 67, 68, 69, 70, 71, 72, 73, 74, 75, 76, 77, 78, 79, 80, 81, 82, 83] (by decide +kernel) (by decide +kernel)
set_option maxRecDepth 20000 in
theorem gX7_use_X7_choose : GoodIn wsX7_use (wsV RX7 119 RX7 yX7_choose wsX7_choose) := goodIn_app (goodIn_of _ (by decide +kernel)) ggX7_use_X7_choose
theorem dX7_use_0 : decode cX7_use 0 = .ok (.aload_n 0, 1) := by decide +kernel
theorem dX7_use_1 : decode cX7_use 1 = .ok (.getfield 10, 3) := by decide +kernel
theorem dX7_use_4 : decode cX7_use 4 = .ok (.iload_n 1, 1) := by decide +kernel
theorem dX7_use_5 : decode cX7_use 5 = .ok (.invokevirtual 88, 3) := by decide +kernel
theorem dX7_use_8 : decode cX7_use 8 = .ok (.istore_n 2, 1) := by decide +kernel
theorem dX7_use_9 : decode cX7_use 9 = .ok (.iload_n 2, 1) := by decide +kernel
theorem dX7_use_10 : decode cX7_use 10 = .ok (.iconst (-1), 1) := by decide +kernel
theorem dX7_use_11 : decode cX7_use 11 = .ok (.if_icmp .ne 8, 3) := by decide +kernel
theorem dX7_use_14 : decode cX7_use 14 = .ok (.aload_n 0, 1) := by decide +kernel
theorem dX7_use_15 : decode cX7_use 15 = .ok (.invokevirtual 65, 3) := by decide +kernel
theorem dX7_use_18 : decode cX7_use 18 = .ok (.ireturn, 1) := by decide +kernel
theorem dX7_use_19 : decode cX7_use 19 = .ok (.aload_n 0, 1) := by decide +kernel
theorem dX7_use_20 : decode cX7_use 20 = .ok (.getfield 19, 3) := by decide +kernel
theorem dX7_use_23 : decode cX7_use 23 = .ok (.aload_n 0, 1) := by decide +kernel
theorem dX7_use_24 : decode cX7_use 24 = .ok (.getfield 10, 3) := by decide +kernel
theorem dX7_use_27 : decode cX7_use 27 = .ok (.invokevirtual 103, 3) := by decide +kernel
theorem dX7_use_30 : decode cX7_use 30 = .ok (.aload_n 0, 1) := by decide +kernel
theorem dX7_use_31 : decode cX7_use 31 = .ok (.iload_n 2, 1) := by decide +kernel
theorem dX7_use_32 : decode cX7_use 32 = .ok (.invokevirtual 119, 3) := by decide +kernel
theorem dX7_use_35 : decode cX7_use 35 = .ok (.ireturn, 1) := by decide +kernel
set_option maxRecDepth 20000 in
theorem ggX7_score_X0_slotOf : GoodIn wsX7_score wsX0_slotOf := goodIn_r _ [8, 9, 10, 57, 58, 59, 60, 61, 62, 63, 64, 65, 66] (by decide +kernel) (by decide +kernel)
set_option maxRecDepth 20000 in
theorem gX7_score_X0_slotOf : GoodIn wsX7_score (wsV RX7 88 RX0 yX0_slotOf wsX0_slotOf) := goodIn_app (goodIn_of _ (by decide +kernel)) ggX7_score_X0_slotOf
set_option maxRecDepth 20000 in
theorem ggX7_score_X7_isWithin : GoodIn wsX7_score wsX7_isWithin := goodIn_r _ [14] (by decide +kernel) (by decide +kernel)
set_option maxRecDepth 20000 in
theorem gX7_score_X7_isWithin : GoodIn wsX7_score (va_wsS RX7 61 yX7_isWithin wsX7_isWithin) := goodIn_app (goodIn_of _ (by decide +kernel)) ggX7_score_X7_isWithin
set_option maxRecDepth 20000 in
theorem ggX7_score_X7_refuseBad : GoodIn wsX7_score wsX7_refuseBad := goodIn_r _ [18, 19, 48, 49, 50, 51, 52, 53, 54, 55, 56] (by decide +kernel) (by decide +kernel)
set_option maxRecDepth 20000 in
theorem gX7_score_X7_refuseBad : GoodIn wsX7_score (wsV RX7 65 RX7 yX7_refuseBad wsX7_refuseBad) := goodIn_app (goodIn_of _ (by decide +kernel)) ggX7_score_X7_refuseBad
set_option maxRecDepth 20000 in
theorem ggX7_score_X4_remember : GoodIn wsX7_score wsX4_remember := goodIn_r _ [24, 25, 26, 27, 28, 29, 30, 31, 32, 33, 34, 7, 35, 9, 36, 37, 38, 39, 40, 41, 42, 10, 43, 44, 45, 46, 47, 67, 68, 69, 57, 58, 59, 60, 61, 62, 63, 64, 65, 66] (by decide +kernel) (by decide +kernel)
set_option maxRecDepth 20000 in
theorem gX7_score_X4_remember : GoodIn wsX7_score (wsV RX7 103 RX4 yX4_remember wsX4_remember) := goodIn_app (goodIn_of _ (by decide +kernel)) ggX7_score_X4_remember
theorem dX7_score_0 : decode cX7_score 0 = .ok (.aload_n 0, 1) := by decide +kernel
theorem dX7_score_1 : decode cX7_score 1 = .ok (.getfield 10, 3) := by decide +kernel
theorem dX7_score_4 : decode cX7_score 4 = .ok (.iload_n 1, 1) := by decide +kernel
theorem dX7_score_5 : decode cX7_score 5 = .ok (.invokevirtual 88, 3) := by decide +kernel
theorem dX7_score_8 : decode cX7_score 8 = .ok (.istore_n 3, 1) := by decide +kernel
theorem dX7_score_9 : decode cX7_score 9 = .ok (.iload_n 3, 1) := by decide +kernel
theorem dX7_score_10 : decode cX7_score 10 = .ok (.iconst (-1), 1) := by decide +kernel
theorem dX7_score_11 : decode cX7_score 11 = .ok (.if_icmp .eq 14, 3) := by decide +kernel
theorem dX7_score_14 : decode cX7_score 14 = .ok (.iload_n 2, 1) := by decide +kernel
theorem dX7_score_15 : decode cX7_score 15 = .ok (.iconst 0, 1) := by decide +kernel
theorem dX7_score_16 : decode cX7_score 16 = .ok (.sipush 1000, 3) := by decide +kernel
theorem dX7_score_19 : decode cX7_score 19 = .ok (.invokestatic 61, 3) := by decide +kernel
theorem dX7_score_22 : decode cX7_score 22 = .ok (.ifCond .ne 8, 3) := by decide +kernel
theorem dX7_score_25 : decode cX7_score 25 = .ok (.aload_n 0, 1) := by decide +kernel
theorem dX7_score_26 : decode cX7_score 26 = .ok (.invokevirtual 65, 3) := by decide +kernel
theorem dX7_score_29 : decode cX7_score 29 = .ok (.ireturn, 1) := by decide +kernel
theorem dX7_score_30 : decode cX7_score 30 = .ok (.aload_n 0, 1) := by decide +kernel
theorem dX7_score_31 : decode cX7_score 31 = .ok (.getfield 19, 3) := by decide +kernel
theorem dX7_score_34 : decode cX7_score 34 = .ok (.aload_n 0, 1) := by decide +kernel
theorem dX7_score_35 : decode cX7_score 35 = .ok (.getfield 10, 3) := by decide +kernel
theorem dX7_score_38 : decode cX7_score 38 = .ok (.invokevirtual 103, 3) := by decide +kernel
theorem dX7_score_41 : decode cX7_score 41 = .ok (.aload_n 0, 1) := by decide +kernel
theorem dX7_score_42 : decode cX7_score 42 = .ok (.getfield 10, 3) := by decide +kernel
theorem dX7_score_45 : decode cX7_score 45 = .ok (.getfield 122, 3) := by decide +kernel
theorem dX7_score_48 : decode cX7_score 48 = .ok (.iload_n 3, 1) := by decide +kernel
theorem dX7_score_49 : decode cX7_score 49 = .ok (.iaload, 1) := by decide +kernel
theorem dX7_score_50 : decode cX7_score 50 = .ok (.istore 4, 2) := by decide +kernel
theorem dX7_score_52 : decode cX7_score 52 = .ok (.aload_n 0, 1) := by decide +kernel
theorem dX7_score_53 : decode cX7_score 53 = .ok (.getfield 10, 3) := by decide +kernel
theorem dX7_score_56 : decode cX7_score 56 = .ok (.getfield 122, 3) := by decide +kernel
theorem dX7_score_59 : decode cX7_score 59 = .ok (.iload_n 3, 1) := by decide +kernel
theorem dX7_score_60 : decode cX7_score 60 = .ok (.iload_n 2, 1) := by decide +kernel
theorem dX7_score_61 : decode cX7_score 61 = .ok (.iastore, 1) := by decide +kernel
theorem dX7_score_62 : decode cX7_score 62 = .ok (.iload 4, 2) := by decide +kernel
theorem dX7_score_64 : decode cX7_score 64 = .ok (.ireturn, 1) := by decide +kernel
set_option maxRecDepth 20000 in
theorem ggX7_drop_X0_slotOf : GoodIn wsX7_drop wsX0_slotOf := goodIn_r _ [8, 9, 10, 58, 59, 60, 61, 62, 63, 64, 65, 66, 67] (by decide +kernel) (by decide +kernel)
set_option maxRecDepth 20000 in
theorem gX7_drop_X0_slotOf : GoodIn wsX7_drop (wsV RX7 88 RX0 yX0_slotOf wsX0_slotOf) := goodIn_app (goodIn_of _ (by decide +kernel)) ggX7_drop_X0_slotOf
set_option maxRecDepth 20000 in
theorem ggX7_drop_X7_refuseBad : GoodIn wsX7_drop wsX7_refuseBad := goodIn_r _ [15, 16, 49, 50, 51, 52, 53, 54, 55, 56, 57] (by decide +kernel) (by decide +kernel)
set_option maxRecDepth 20000 in
theorem gX7_drop_X7_refuseBad : GoodIn wsX7_drop (wsV RX7 65 RX7 yX7_refuseBad wsX7_refuseBad) := goodIn_app (goodIn_of _ (by decide +kernel)) ggX7_drop_X7_refuseBad
set_option maxRecDepth 20000 in
theorem ggX7_drop_X4_remember : GoodIn wsX7_drop wsX4_remember := goodIn_r _ [21, 22, 23, 24, 25, 26, 27, 28, 29, 30, 31, 7, 32, 9, 33, 34, 35, 36, 37, 38, 39, 10, 40, 41, 42, 43, 44, 68, 69, 70, 58, 59, 60, 61, 62, 63, 64, 65, 66, 67] (by decide +kernel) (by decide +kernel)
set_option maxRecDepth 20000 in
theorem gX7_drop_X4_remember : GoodIn wsX7_drop (wsV RX7 103 RX4 yX4_remember wsX4_remember) := goodIn_app (goodIn_of _ (by decide +kernel)) ggX7_drop_X4_remember
set_option maxRecDepth 20000 in
theorem ggX7_drop_X0_takeOut : GoodIn wsX7_drop wsX0_takeOut := goodIn_r _ [48, 9, 36, 37, 38, 7, 39, 10, 40, 41, 42, 43, 44, 58, 59, 60, 61, 62, 63, 64, 65, 66, 67] (by decide +kernel) (by decide +kernel)
set_option maxRecDepth 20000 in
theorem gX7_drop_X0_takeOut : GoodIn wsX7_drop (wsV RX7 126 RX0 yX0_takeOut wsX0_takeOut) := goodIn_app (goodIn_of _ (by decide +kernel)) ggX7_drop_X0_takeOut
theorem dX7_drop_0 : decode cX7_drop 0 = .ok (.aload_n 0, 1) := by decide +kernel
theorem dX7_drop_1 : decode cX7_drop 1 = .ok (.getfield 10, 3) := by decide +kernel
theorem dX7_drop_4 : decode cX7_drop 4 = .ok (.iload_n 1, 1) := by decide +kernel
theorem dX7_drop_5 : decode cX7_drop 5 = .ok (.invokevirtual 88, 3) := by decide +kernel
theorem dX7_drop_8 : decode cX7_drop 8 = .ok (.istore_n 2, 1) := by decide +kernel
theorem dX7_drop_9 : decode cX7_drop 9 = .ok (.iload_n 2, 1) := by decide +kernel
theorem dX7_drop_10 : decode cX7_drop 10 = .ok (.iconst (-1), 1) := by decide +kernel
theorem dX7_drop_11 : decode cX7_drop 11 = .ok (.if_icmp .ne 8, 3) := by decide +kernel
theorem dX7_drop_14 : decode cX7_drop 14 = .ok (.aload_n 0, 1) := by decide +kernel
theorem dX7_drop_15 : decode cX7_drop 15 = .ok (.invokevirtual 65, 3) := by decide +kernel
theorem dX7_drop_18 : decode cX7_drop 18 = .ok (.ireturn, 1) := by decide +kernel
theorem dX7_drop_19 : decode cX7_drop 19 = .ok (.aload_n 0, 1) := by decide +kernel
theorem dX7_drop_20 : decode cX7_drop 20 = .ok (.getfield 19, 3) := by decide +kernel
theorem dX7_drop_23 : decode cX7_drop 23 = .ok (.aload_n 0, 1) := by decide +kernel
theorem dX7_drop_24 : decode cX7_drop 24 = .ok (.getfield 10, 3) := by decide +kernel
theorem dX7_drop_27 : decode cX7_drop 27 = .ok (.invokevirtual 103, 3) := by decide +kernel
theorem dX7_drop_30 : decode cX7_drop 30 = .ok (.aload_n 0, 1) := by decide +kernel
theorem dX7_drop_31 : decode cX7_drop 31 = .ok (.getfield 10, 3) := by decide +kernel
theorem dX7_drop_34 : decode cX7_drop 34 = .ok (.getfield 122, 3) := by decide +kernel
theorem dX7_drop_37 : decode cX7_drop 37 = .ok (.iload_n 2, 1) := by decide +kernel
theorem dX7_drop_38 : decode cX7_drop 38 = .ok (.iaload, 1) := by decide +kernel
theorem dX7_drop_39 : decode cX7_drop 39 = .ok (.istore_n 3, 1) := by decide +kernel
theorem dX7_drop_40 : decode cX7_drop 40 = .ok (.aload_n 0, 1) := by decide +kernel
theorem dX7_drop_41 : decode cX7_drop 41 = .ok (.getfield 10, 3) := by decide +kernel
theorem dX7_drop_44 : decode cX7_drop 44 = .ok (.iload_n 2, 1) := by decide +kernel
theorem dX7_drop_45 : decode cX7_drop 45 = .ok (.invokevirtual 126, 3) := by decide +kernel
theorem dX7_drop_48 : decode cX7_drop 48 = .ok (.iload_n 3, 1) := by decide +kernel
theorem dX7_drop_49 : decode cX7_drop 49 = .ok (.ireturn, 1) := by decide +kernel
set_option maxRecDepth 20000 in
theorem ggX7_rank_X7_isWithin : GoodIn wsX7_rank wsX7_isWithin := goodIn_r _ [7] (by decide +kernel) (by decide +kernel)
set_option maxRecDepth 20000 in
theorem gX7_rank_X7_isWithin : GoodIn wsX7_rank (va_wsS RX7 61 yX7_isWithin wsX7_isWithin) := goodIn_app (goodIn_of _ (by decide +kernel)) ggX7_rank_X7_isWithin
set_option maxRecDepth 20000 in
theorem ggX7_rank_X7_refuseBad : GoodIn wsX7_rank wsX7_refuseBad := goodIn_r _ [11, 12, 44, 45, 46, 47, 48, 49, 50, 51, 52] (by decide +kernel) (by decide +kernel)
set_option maxRecDepth 20000 in
theorem gX7_rank_X7_refuseBad : GoodIn wsX7_rank (wsV RX7 65 RX7 yX7_refuseBad wsX7_refuseBad) := goodIn_app (goodIn_of _ (by decide +kernel)) ggX7_rank_X7_refuseBad
set_option maxRecDepth 20000 in
theorem ggX7_rank_X4_remember : GoodIn wsX7_rank wsX4_remember := goodIn_r _ [17, 18, 19, 20, 21, 22, 23, 24, 25, 26, 27, 28, 29, 30, 31, 32, 33, 34, 35, 36, 37, 38, 39, 40, 41, 42, 43, 63, 64, 65, 53, 54, 55, 56, 57, 58, 59, 60, 61, 62] (by decide +kernel) (by decide +kernel)
set_option maxRecDepth 20000 in
theorem gX7_rank_X4_remember : GoodIn wsX7_rank (wsV RX7 103 RX4 yX4_remember wsX4_remember) := goodIn_app (goodIn_of _ (by decide +kernel)) ggX7_rank_X4_remember
theorem dX7_rank_0 : decode cX7_rank 0 = .ok (.iload_n 1, 1) := by decide +kernel
theorem dX7_rank_1 : decode cX7_rank 1 = .ok (.iconst 0, 1) := by decide +kernel
theorem dX7_rank_2 : decode cX7_rank 2 = .ok (.iconst 4, 1) := by decide +kernel
theorem dX7_rank_3 : decode cX7_rank 3 = .ok (.invokestatic 61, 3) := by decide +kernel
theorem dX7_rank_6 : decode cX7_rank 6 = .ok (.ifCond .ne 8, 3) := by decide +kernel
theorem dX7_rank_9 : decode cX7_rank 9 = .ok (.aload_n 0, 1) := by decide +kernel
theorem dX7_rank_10 : decode cX7_rank 10 = .ok (.invokevirtual 65, 3) := by decide +kernel
theorem dX7_rank_13 : decode cX7_rank 13 = .ok (.ireturn, 1) := by decide +kernel
theorem dX7_rank_14 : decode cX7_rank 14 = .ok (.aload_n 0, 1) := by decide +kernel
theorem dX7_rank_15 : decode cX7_rank 15 = .ok (.getfield 19, 3) := by decide +kernel
theorem dX7_rank_18 : decode cX7_rank 18 = .ok (.aload_n 0, 1) := by decide +kernel
theorem dX7_rank_19 : decode cX7_rank 19 = .ok (.getfield 10, 3) := by decide +kernel
theorem dX7_rank_22 : decode cX7_rank 22 = .ok (.invokevirtual 103, 3) := by decide +kernel
theorem dX7_rank_25 : decode cX7_rank 25 = .ok (.aload_n 0, 1) := by decide +kernel
theorem dX7_rank_26 : decode cX7_rank 26 = .ok (.getfield 10, 3) := by decide +kernel
theorem dX7_rank_29 : decode cX7_rank 29 = .ok (.getfield 130, 3) := by decide +kernel
theorem dX7_rank_32 : decode cX7_rank 32 = .ok (.istore_n 2, 1) := by decide +kernel
theorem dX7_rank_33 : decode cX7_rank 33 = .ok (.aload_n 0, 1) := by decide +kernel
theorem dX7_rank_34 : decode cX7_rank 34 = .ok (.getfield 10, 3) := by decide +kernel
theorem dX7_rank_37 : decode cX7_rank 37 = .ok (.iload_n 1, 1) := by decide +kernel
theorem dX7_rank_38 : decode cX7_rank 38 = .ok (.putfield 130, 3) := by decide +kernel
theorem dX7_rank_41 : decode cX7_rank 41 = .ok (.iload_n 2, 1) := by decide +kernel
theorem dX7_rank_42 : decode cX7_rank 42 = .ok (.ireturn, 1) := by decide +kernel
set_option maxRecDepth 20000 in
theorem ggX7_slip_X7_isWithin : GoodIn wsX7_slip wsX7_isWithin := goodIn_r _ [7] (by decide +kernel) (by decide +kernel)
set_option maxRecDepth 20000 in
theorem gX7_slip_X7_isWithin : GoodIn wsX7_slip (va_wsS RX7 61 yX7_isWithin wsX7_isWithin) := goodIn_app (goodIn_of _ (by decide +kernel)) ggX7_slip_X7_isWithin
set_option maxRecDepth 20000 in
theorem ggX7_slip_X7_refuseBad : GoodIn wsX7_slip wsX7_refuseBad := goodIn_r _ [11, 12, 44, 45, 46, 47, 48, 49, 50, 51, 52] (by decide +kernel) (by decide +kernel)
set_option maxRecDepth 20000 in
theorem gX7_slip_X7_refuseBad : GoodIn wsX7_slip (wsV RX7 65 RX7 yX7_refuseBad wsX7_refuseBad) := goodIn_app (goodIn_of _ (by decide +kernel)) ggX7_slip_X7_refuseBad
set_option maxRecDepth 20000 in
theorem ggX7_slip_X4_remember : GoodIn wsX7_slip wsX4_remember := goodIn_r _ [17, 18, 19, 20, 21, 22, 23, 24, 25, 26, 27, 28, 29, 30, 31, 32, 33, 34, 35, 36, 37, 38, 39, 40, 41, 42, 43, 63, 64, 65, 53, 54, 55, 56, 57, 58, 59, 60, 61, 62] (by decide +kernel) (by decide +kernel)
set_option maxRecDepth 20000 in
theorem gX7_slip_X4_remember : GoodIn wsX7_slip (wsV RX7 103 RX4 yX4_remember wsX4_remember) := goodIn_app (goodIn_of _ (by decide +kernel)) ggX7_slip_X4_remember
theorem dX7_slip_0 : decode cX7_slip 0 = .ok (.iload_n 1, 1) := by decide +kernel
theorem dX7_slip_1 : decode cX7_slip 1 = .ok (.iconst 0, 1) := by decide +kernel
theorem dX7_slip_2 : decode cX7_slip 2 = .ok (.sipush 1000, 3) := by decide +kernel
theorem dX7_slip_5 : decode cX7_slip 5 = .ok (.invokestatic 61, 3) := by decide +kernel
theorem dX7_slip_8 : decode cX7_slip 8 = .ok (.ifCond .ne 8, 3) := by decide +kernel
theorem dX7_slip_11 : decode cX7_slip 11 = .ok (.aload_n 0, 1) := by decide +kernel
theorem dX7_slip_12 : decode cX7_slip 12 = .ok (.invokevirtual 65, 3) := by decide +kernel
theorem dX7_slip_15 : decode cX7_slip 15 = .ok (.ireturn, 1) := by decide +kernel
theorem dX7_slip_16 : decode cX7_slip 16 = .ok (.aload_n 0, 1) := by decide +kernel
theorem dX7_slip_17 : decode cX7_slip 17 = .ok (.getfield 19, 3) := by decide +kernel
theorem dX7_slip_20 : decode cX7_slip 20 = .ok (.aload_n 0, 1) := by decide +kernel
theorem dX7_slip_21 : decode cX7_slip 21 = .ok (.getfield 10, 3) := by decide +kernel
theorem dX7_slip_24 : decode cX7_slip 24 = .ok (.invokevirtual 103, 3) := by decide +kernel
theorem dX7_slip_27 : decode cX7_slip 27 = .ok (.aload_n 0, 1) := by decide +kernel
theorem dX7_slip_28 : decode cX7_slip 28 = .ok (.getfield 10, 3) := by decide +kernel
theorem dX7_slip_31 : decode cX7_slip 31 = .ok (.getfield 133, 3) := by decide +kernel
theorem dX7_slip_34 : decode cX7_slip 34 = .ok (.istore_n 2, 1) := by decide +kernel
theorem dX7_slip_35 : decode cX7_slip 35 = .ok (.aload_n 0, 1) := by decide +kernel
theorem dX7_slip_36 : decode cX7_slip 36 = .ok (.getfield 10, 3) := by decide +kernel
theorem dX7_slip_39 : decode cX7_slip 39 = .ok (.iload_n 1, 1) := by decide +kernel
theorem dX7_slip_40 : decode cX7_slip 40 = .ok (.putfield 133, 3) := by decide +kernel
theorem dX7_slip_43 : decode cX7_slip 43 = .ok (.iload_n 2, 1) := by decide +kernel
theorem dX7_slip_44 : decode cX7_slip 44 = .ok (.ireturn, 1) := by decide +kernel
set_option maxRecDepth 20000 in
theorem ggX7_fades_X4_remember : GoodIn wsX7_fades wsX4_remember := goodIn_r _ [8, 9, 10, 11, 12, 13, 14, 15, 16, 17, 18, 19, 20, 21, 22, 23, 24, 25, 26, 27, 28, 29, 30, 31, 32, 33, 34, 58, 59, 60, 48, 49, 50, 51, 52, 53, 54, 55, 56, 57] (by decide +kernel) (by decide +kernel)
set_option maxRecDepth 20000 in
theorem gX7_fades_X4_remember : GoodIn wsX7_fades (wsV RX7 103 RX4 yX4_remember wsX4_remember) := goodIn_app (goodIn_of _ (by decide +kernel)) ggX7_fades_X4_remember
set_option maxRecDepth 20000 in
theorem ggX7_fades_X0_halveScores : GoodIn wsX7_fades wsX0_halveScores := goodIn_r _ [38, 21, 31, 48, 49, 50, 51, 52, 53, 54, 55, 56, 57] (by decide +kernel) (by decide +kernel)
set_option maxRecDepth 20000 in
theorem gX7_fades_X0_halveScores : GoodIn wsX7_fades (wsV RX7 136 RX0 yX0_halveScores wsX0_halveScores) := goodIn_app (goodIn_of _ (by decide +kernel)) ggX7_fades_X0_halveScores
theorem dX7_fades_0 : decode cX7_fades 0 = .ok (.aload_n 0, 1) := by decide +kernel
theorem dX7_fades_1 : decode cX7_fades 1 = .ok (.getfield 19, 3) := by decide +kernel
theorem dX7_fades_4 : decode cX7_fades 4 = .ok (.aload_n 0, 1) := by decide +kernel
theorem dX7_fades_5 : decode cX7_fades 5 = .ok (.getfield 10, 3) := by decide +kernel
theorem dX7_fades_8 : decode cX7_fades 8 = .ok (.invokevirtual 103, 3) := by decide +kernel
theorem dX7_fades_11 : decode cX7_fades 11 = .ok (.aload_n 0, 1) := by decide +kernel
theorem dX7_fades_12 : decode cX7_fades 12 = .ok (.getfield 10, 3) := by decide +kernel
theorem dX7_fades_15 : decode cX7_fades 15 = .ok (.invokevirtual 136, 3) := by decide +kernel
theorem dX7_fades_18 : decode cX7_fades 18 = .ok (.aload_n 0, 1) := by decide +kernel
theorem dX7_fades_19 : decode cX7_fades 19 = .ok (.getfield 10, 3) := by decide +kernel
theorem dX7_fades_22 : decode cX7_fades 22 = .ok (.getfield 139, 3) := by decide +kernel
theorem dX7_fades_25 : decode cX7_fades 25 = .ok (.ireturn, 1) := by decide +kernel
set_option maxRecDepth 20000 in
theorem ggX7_draw_X7_isWithin : GoodIn wsX7_draw wsX7_isWithin := goodIn_r _ [7] (by decide +kernel) (by decide +kernel)
set_option maxRecDepth 20000 in
theorem gX7_draw_X7_isWithin : GoodIn wsX7_draw (va_wsS RX7 61 yX7_isWithin wsX7_isWithin) := goodIn_app (goodIn_of _ (by decide +kernel)) ggX7_draw_X7_isWithin
set_option maxRecDepth 20000 in
theorem ggX7_draw_X7_refuseBad : GoodIn wsX7_draw wsX7_refuseBad := goodIn_r _ [11, 12, 92, 93, 94, 95, 96, 97, 98, 99, 100] (by decide +kernel) (by decide +kernel)
set_option maxRecDepth 20000 in
theorem gX7_draw_X7_refuseBad : GoodIn wsX7_draw (wsV RX7 65 RX7 yX7_refuseBad wsX7_refuseBad) := goodIn_app (goodIn_of _ (by decide +kernel)) ggX7_draw_X7_refuseBad
set_option maxRecDepth 20000 in
theorem ggX7_draw_X4_remember : GoodIn wsX7_draw wsX4_remember := goodIn_r _ [17, 18, 19, 20, 21, 22, 23, 24, 25, 26, 27, 28, 29, 30, 31, 32, 33, 34, 35, 36, 37, 38, 39, 40, 41, 42, 43, 101, 102, 103, 104, 105, 106, 107, 108, 109, 110, 111, 112, 113] (by decide +kernel) (by decide +kernel)
set_option maxRecDepth 20000 in
theorem gX7_draw_X4_remember : GoodIn wsX7_draw (wsV RX7 103 RX4 yX4_remember wsX4_remember) := goodIn_app (goodIn_of _ (by decide +kernel)) ggX7_draw_X4_remember
set_option maxRecDepth 20000 in
theorem ggX7_draw_X1_next : GoodIn wsX7_draw wsX1_next := goodIn_r _ [47, 48, 49, 50] (by decide +kernel) (by decide +kernel)
set_option maxRecDepth 20000 in
theorem gX7_draw_X1_next : GoodIn wsX7_draw (va_wsS RX7 143 yX1_next wsX1_next) := goodIn_app (goodIn_of _ (by decide +kernel)) ggX7_draw_X1_next
set_option maxRecDepth 20000 in
theorem ggX7_draw_X1_upper : GoodIn wsX7_draw wsX1_upper := goodIn_r _ [53, 54] (by decide +kernel) (by decide +kernel)
set_option maxRecDepth 20000 in
theorem gX7_draw_X1_upper : GoodIn wsX7_draw (va_wsS RX7 149 yX1_upper wsX1_upper) := goodIn_app (goodIn_of _ (by decide +kernel)) ggX7_draw_X1_upper
set_option maxRecDepth 20000 in
theorem ggX7_draw_X6_longer : GoodIn wsX7_draw wsX6_longer := goodIn_r _ [58, 59, 60, 57, 61, 62, 63, 64, 65, 66, 67, 68, 69, 70] (by decide +kernel) (by decide +kernel)
set_option maxRecDepth 20000 in
theorem gX7_draw_X6_longer : GoodIn wsX7_draw (va_wsS RX7 78 yX6_longer wsX6_longer) := goodIn_app (goodIn_of _ (by decide +kernel)) ggX7_draw_X6_longer
set_option maxRecDepth 20000 in
theorem ggX7_draw_X1_middle : GoodIn wsX7_draw wsX1_middle := goodIn_r _ [73, 74] (by decide +kernel) (by decide +kernel)
set_option maxRecDepth 20000 in
theorem gX7_draw_X1_middle : GoodIn wsX7_draw (va_wsS RX7 152 yX1_middle wsX1_middle) := goodIn_app (goodIn_of _ (by decide +kernel)) ggX7_draw_X1_middle
set_option maxRecDepth 20000 in
theorem ggX7_draw_X7_comes : GoodIn wsX7_draw wsX7_comes := goodIn_r _ [78, 3, 79, 80, 81, 28, 82, 30, 39, 83, 84, 85, 86, 31, 87, 88, 89, 90, 38, 40, 41, 42, 43, 91, 92, 93, 94, 95, 96, 97, 98, 99, 100, 104, 105, 106, 107, 108, 109, 110, 111, 112, 113] (by decide +kernel) (by decide +kernel)
set_option maxRecDepth 20000 in
theorem gX7_draw_X7_comes : GoodIn wsX7_draw (wsV RX7 155 RX7 yX7_comes wsX7_comes) := goodIn_app (goodIn_of _ (by decide +kernel)) ggX7_draw_X7_comes
theorem dX7_draw_0 : decode cX7_draw 0 = .ok (.iload_n 1, 1) := by decide +kernel
theorem dX7_draw_1 : decode cX7_draw 1 = .ok (.iconst 0, 1) := by decide +kernel
theorem dX7_draw_2 : decode cX7_draw 2 = .ok (.ldc 142, 2) := by decide +kernel
theorem dX7_draw_4 : decode cX7_draw 4 = .ok (.invokestatic 61, 3) := by decide +kernel
theorem dX7_draw_7 : decode cX7_draw 7 = .ok (.ifCond .eq 13, 3) := by decide +kernel
theorem dX7_draw_10 : decode cX7_draw 10 = .ok (.iload_n 2, 1) := by decide +kernel
theorem dX7_draw_11 : decode cX7_draw 11 = .ok (.iconst 1, 1) := by decide +kernel
theorem dX7_draw_12 : decode cX7_draw 12 = .ok (.bipush 9, 2) := by decide +kernel
theorem dX7_draw_14 : decode cX7_draw 14 = .ok (.invokestatic 61, 3) := by decide +kernel
theorem dX7_draw_17 : decode cX7_draw 17 = .ok (.ifCond .ne 8, 3) := by decide +kernel
theorem dX7_draw_20 : decode cX7_draw 20 = .ok (.aload_n 0, 1) := by decide +kernel
theorem dX7_draw_21 : decode cX7_draw 21 = .ok (.invokevirtual 65, 3) := by decide +kernel
theorem dX7_draw_24 : decode cX7_draw 24 = .ok (.ireturn, 1) := by decide +kernel
theorem dX7_draw_25 : decode cX7_draw 25 = .ok (.aload_n 0, 1) := by decide +kernel
theorem dX7_draw_26 : decode cX7_draw 26 = .ok (.getfield 19, 3) := by decide +kernel
theorem dX7_draw_29 : decode cX7_draw 29 = .ok (.aload_n 0, 1) := by decide +kernel
theorem dX7_draw_30 : decode cX7_draw 30 = .ok (.getfield 10, 3) := by decide +kernel
theorem dX7_draw_33 : decode cX7_draw 33 = .ok (.invokevirtual 103, 3) := by decide +kernel
theorem dX7_draw_36 : decode cX7_draw 36 = .ok (.iconst 0, 1) := by decide +kernel
theorem dX7_draw_37 : decode cX7_draw 37 = .ok (.istore_n 3, 1) := by decide +kernel
theorem dX7_draw_38 : decode cX7_draw 38 = .ok (.iload_n 1, 1) := by decide +kernel
theorem dX7_draw_39 : decode cX7_draw 39 = .ok (.i2l, 1) := by decide +kernel
theorem dX7_draw_40 : decode cX7_draw 40 = .ok (.lstore 4, 2) := by decide +kernel
theorem dX7_draw_42 : decode cX7_draw 42 = .ok (.iconst 0, 1) := by decide +kernel
theorem dX7_draw_43 : decode cX7_draw 43 = .ok (.istore 6, 2) := by decide +kernel
theorem dX7_draw_45 : decode cX7_draw 45 = .ok (.iload 6, 2) := by decide +kernel
theorem dX7_draw_47 : decode cX7_draw 47 = .ok (.iload_n 2, 1) := by decide +kernel
theorem dX7_draw_48 : decode cX7_draw 48 = .ok (.if_icmp .ge 100, 3) := by decide +kernel
theorem dX7_draw_51 : decode cX7_draw 51 = .ok (.lload 4, 2) := by decide +kernel
theorem dX7_draw_53 : decode cX7_draw 53 = .ok (.invokestatic 143, 3) := by decide +kernel
theorem dX7_draw_56 : decode cX7_draw 56 = .ok (.lstore 4, 2) := by decide +kernel
theorem dX7_draw_58 : decode cX7_draw 58 = .ok (.lload 4, 2) := by decide +kernel
theorem dX7_draw_60 : decode cX7_draw 60 = .ok (.iconst 5, 1) := by decide +kernel
theorem dX7_draw_61 : decode cX7_draw 61 = .ok (.invokestatic 149, 3) := by decide +kernel
theorem dX7_draw_64 : decode cX7_draw 64 = .ok (.iconst 1, 1) := by decide +kernel
theorem dX7_draw_65 : decode cX7_draw 65 = .ok (.iadd, 1) := by decide +kernel
theorem dX7_draw_66 : decode cX7_draw 66 = .ok (.istore 7, 2) := by decide +kernel
theorem dX7_draw_68 : decode cX7_draw 68 = .ok (.lconst 0, 1) := by decide +kernel
theorem dX7_draw_69 : decode cX7_draw 69 = .ok (.lstore 8, 2) := by decide +kernel
theorem dX7_draw_71 : decode cX7_draw 71 = .ok (.iconst 0, 1) := by decide +kernel
theorem dX7_draw_72 : decode cX7_draw 72 = .ok (.istore 10, 2) := by decide +kernel
theorem dX7_draw_74 : decode cX7_draw 74 = .ok (.iload 10, 2) := by decide +kernel
theorem dX7_draw_76 : decode cX7_draw 76 = .ok (.iload 7, 2) := by decide +kernel
theorem dX7_draw_78 : decode cX7_draw 78 = .ok (.if_icmp .ge 30, 3) := by decide +kernel
theorem dX7_draw_81 : decode cX7_draw 81 = .ok (.lload 4, 2) := by decide +kernel
theorem dX7_draw_83 : decode cX7_draw 83 = .ok (.invokestatic 143, 3) := by decide +kernel
theorem dX7_draw_86 : decode cX7_draw 86 = .ok (.lstore 4, 2) := by decide +kernel
theorem dX7_draw_88 : decode cX7_draw 88 = .ok (.lload 8, 2) := by decide +kernel
theorem dX7_draw_90 : decode cX7_draw 90 = .ok (.lload 4, 2) := by decide +kernel
theorem dX7_draw_92 : decode cX7_draw 92 = .ok (.bipush 8, 2) := by decide +kernel
theorem dX7_draw_94 : decode cX7_draw 94 = .ok (.invokestatic 149, 3) := by decide +kernel
theorem dX7_draw_97 : decode cX7_draw 97 = .ok (.invokestatic 78, 3) := by decide +kernel
theorem dX7_draw_100 : decode cX7_draw 100 = .ok (.lstore 8, 2) := by decide +kernel
theorem dX7_draw_102 : decode cX7_draw 102 = .ok (.iinc 10 1, 3) := by decide +kernel
theorem dX7_draw_105 : decode cX7_draw 105 = .ok (.goto (-31), 3) := by decide +kernel
theorem dX7_draw_108 : decode cX7_draw 108 = .ok (.lload 4, 2) := by decide +kernel
theorem dX7_draw_110 : decode cX7_draw 110 = .ok (.invokestatic 143, 3) := by decide +kernel
theorem dX7_draw_113 : decode cX7_draw 113 = .ok (.lstore 4, 2) := by decide +kernel
theorem dX7_draw_115 : decode cX7_draw 115 = .ok (.aload_n 0, 1) := by decide +kernel
theorem dX7_draw_116 : decode cX7_draw 116 = .ok (.lload 8, 2) := by decide +kernel
theorem dX7_draw_118 : decode cX7_draw 118 = .ok (.lload 4, 2) := by decide +kernel
theorem dX7_draw_120 : decode cX7_draw 120 = .ok (.sipush 1001, 3) := by decide +kernel
theorem dX7_draw_123 : decode cX7_draw 123 = .ok (.invokestatic 149, 3) := by decide +kernel
theorem dX7_draw_126 : decode cX7_draw 126 = .ok (.lload 4, 2) := by decide +kernel
theorem dX7_draw_128 : decode cX7_draw 128 = .ok (.bipush 10, 2) := by decide +kernel
theorem dX7_draw_130 : decode cX7_draw 130 = .ok (.invokestatic 152, 3) := by decide +kernel
theorem dX7_draw_133 : decode cX7_draw 133 = .ok (.invokevirtual 155, 3) := by decide +kernel
theorem dX7_draw_136 : decode cX7_draw 136 = .ok (.ifCond .eq 6, 3) := by decide +kernel
theorem dX7_draw_139 : decode cX7_draw 139 = .ok (.iinc 3 1, 3) := by decide +kernel
theorem dX7_draw_142 : decode cX7_draw 142 = .ok (.iinc 6 1, 3) := by decide +kernel
theorem dX7_draw_145 : decode cX7_draw 145 = .ok (.goto (-100), 3) := by decide +kernel
theorem dX7_draw_148 : decode cX7_draw 148 = .ok (.iload_n 3, 1) := by decide +kernel
theorem dX7_draw_149 : decode cX7_draw 149 = .ok (.ireturn, 1) := by decide +kernel
set_option maxRecDepth 20000 in
theorem ggX7_undo_X7_refuseNo : GoodIn wsX7_undo wsX7_refuseNo := goodIn_r _ [8, 9, 37, 38, 39, 40, 41, 42, 43, 44, 45] (by decide +kernel) (by decide +kernel)
set_option maxRecDepth 20000 in
theorem gX7_undo_X7_refuseNo : GoodIn wsX7_undo (wsV RX7 82 RX7 yX7_refuseNo wsX7_refuseNo) := goodIn_app (goodIn_of _ (by decide +kernel)) ggX7_undo_X7_refuseNo
set_option maxRecDepth 20000 in
theorem ggX7_undo_X4_bringBack : GoodIn wsX7_undo wsX4_bringBack := goodIn_r _ [14, 15, 16, 17, 18, 19, 20, 21, 22, 23, 24, 25, 26, 27, 28, 29, 30, 31, 32, 33, 34, 35, 36, 46, 47, 48, 49, 50, 51, 52, 53, 54, 55, 56, 57, 58] (by decide +kernel) (by decide +kernel)
set_option maxRecDepth 20000 in
theorem gX7_undo_X4_bringBack : GoodIn wsX7_undo (wsV RX7 160 RX4 yX4_bringBack wsX4_bringBack) := goodIn_app (goodIn_of _ (by decide +kernel)) ggX7_undo_X4_bringBack
theorem dX7_undo_0 : decode cX7_undo 0 = .ok (.aload_n 0, 1) := by decide +kernel
theorem dX7_undo_1 : decode cX7_undo 1 = .ok (.getfield 19, 3) := by decide +kernel
theorem dX7_undo_4 : decode cX7_undo 4 = .ok (.getfield 159, 3) := by decide +kernel
theorem dX7_undo_7 : decode cX7_undo 7 = .ok (.ifCond .ne 8, 3) := by decide +kernel
theorem dX7_undo_10 : decode cX7_undo 10 = .ok (.aload_n 0, 1) := by decide +kernel
theorem dX7_undo_11 : decode cX7_undo 11 = .ok (.invokevirtual 82, 3) := by decide +kernel
theorem dX7_undo_14 : decode cX7_undo 14 = .ok (.ireturn, 1) := by decide +kernel
theorem dX7_undo_15 : decode cX7_undo 15 = .ok (.aload_n 0, 1) := by decide +kernel
theorem dX7_undo_16 : decode cX7_undo 16 = .ok (.getfield 19, 3) := by decide +kernel
theorem dX7_undo_19 : decode cX7_undo 19 = .ok (.aload_n 0, 1) := by decide +kernel
theorem dX7_undo_20 : decode cX7_undo 20 = .ok (.getfield 10, 3) := by decide +kernel
theorem dX7_undo_23 : decode cX7_undo 23 = .ok (.invokevirtual 160, 3) := by decide +kernel
theorem dX7_undo_26 : decode cX7_undo 26 = .ok (.aload_n 0, 1) := by decide +kernel
theorem dX7_undo_27 : decode cX7_undo 27 = .ok (.getfield 19, 3) := by decide +kernel
theorem dX7_undo_30 : decode cX7_undo 30 = .ok (.getfield 159, 3) := by decide +kernel
theorem dX7_undo_33 : decode cX7_undo 33 = .ok (.ireturn, 1) := by decide +kernel
set_option maxRecDepth 20000 in
theorem ggX7_best_X7_refusePlace : GoodIn wsX7_best wsX7_refusePlace := goodIn_r _ [9, 10, 63, 64, 65, 66, 67, 68, 69, 70, 71] (by decide +kernel) (by decide +kernel)
set_option maxRecDepth 20000 in
theorem gX7_best_X7_refusePlace : GoodIn wsX7_best (wsV RX7 163 RX7 yX7_refusePlace wsX7_refusePlace) := goodIn_app (goodIn_of _ (by decide +kernel)) ggX7_best_X7_refusePlace
set_option maxRecDepth 20000 in
theorem ggX7_best_X2_makeEmpty : GoodIn wsX7_best wsX2_makeEmpty := goodIn_r _ [15, 16, 82, 83, 84] (by decide +kernel) (by decide +kernel)
set_option maxRecDepth 20000 in
theorem gX7_best_X2_makeEmpty : GoodIn wsX7_best (wsV RX7 166 RX2 yX2_makeEmpty wsX2_makeEmpty) := goodIn_app (goodIn_of _ (by decide +kernel)) ggX7_best_X2_makeEmpty
set_option maxRecDepth 20000 in
theorem ggX7_best_X7_beginsSo : GoodIn wsX7_best wsX7_beginsSo := goodIn_r _ [20, 2, 21, 22, 23, 24, 25, 26, 27, 28, 29, 30, 31, 32, 33, 34, 35, 36, 37, 38, 39, 40, 41, 42, 43, 44, 63, 64, 65, 66, 67, 68, 69, 70, 71, 72, 73, 74, 75, 76, 77, 78, 79, 80, 81] (by decide +kernel) (by decide +kernel)
set_option maxRecDepth 20000 in
theorem gX7_best_X7_beginsSo : GoodIn wsX7_best (wsV RX7 167 RX7 yX7_beginsSo wsX7_beginsSo) := goodIn_app (goodIn_of _ (by decide +kernel)) ggX7_best_X7_beginsSo
set_option maxRecDepth 20000 in
theorem ggX7_best_X2_insert : GoodIn wsX7_best wsX2_insert := goodIn_r _ [48, 16, 49, 50, 82, 83, 84] (by decide +kernel) (by decide +kernel)
set_option maxRecDepth 20000 in
theorem gX7_best_X2_insert : GoodIn wsX7_best (wsV RX7 171 RX2 yX2_insert wsX2_insert) := goodIn_app (goodIn_of _ (by decide +kernel)) ggX7_best_X2_insert
set_option maxRecDepth 20000 in
theorem ggX7_best_X7_listedAt : GoodIn wsX7_best wsX7_listedAt := goodIn_r _ [54, 1, 2, 55, 56, 57, 58, 59, 60, 14, 61, 16, 62, 50, 63, 64, 65, 66, 67, 68, 69, 70, 71, 82, 83, 84, 72, 73, 74, 75, 76, 77, 78, 79, 80, 81] (by decide +kernel) (by decide +kernel)
set_option maxRecDepth 20000 in
theorem gX7_best_X7_listedAt : GoodIn wsX7_best (wsV RX7 175 RX7 yX7_listedAt wsX7_listedAt) := goodIn_app (goodIn_of _ (by decide +kernel)) ggX7_best_X7_listedAt
theorem dX7_best_0 : decode cX7_best 0 = .ok (.iload_n 1, 1) := by decide +kernel
theorem dX7_best_1 : decode cX7_best 1 = .ok (.iconst (-1), 1) := by decide +kernel
theorem dX7_best_2 : decode cX7_best 2 = .ok (.if_icmp .ge 8, 3) := by decide +kernel
theorem dX7_best_5 : decode cX7_best 5 = .ok (.aload_n 0, 1) := by decide +kernel
theorem dX7_best_6 : decode cX7_best 6 = .ok (.invokevirtual 163, 3) := by decide +kernel
theorem dX7_best_9 : decode cX7_best 9 = .ok (.ireturn, 1) := by decide +kernel
theorem dX7_best_10 : decode cX7_best 10 = .ok (.aload_n 0, 1) := by decide +kernel
theorem dX7_best_11 : decode cX7_best 11 = .ok (.getfield 26, 3) := by decide +kernel
theorem dX7_best_14 : decode cX7_best 14 = .ok (.invokevirtual 166, 3) := by decide +kernel
theorem dX7_best_17 : decode cX7_best 17 = .ok (.iconst 0, 1) := by decide +kernel
theorem dX7_best_18 : decode cX7_best 18 = .ok (.istore_n 2, 1) := by decide +kernel
theorem dX7_best_19 : decode cX7_best 19 = .ok (.iload_n 2, 1) := by decide +kernel
theorem dX7_best_20 : decode cX7_best 20 = .ok (.aload_n 0, 1) := by decide +kernel
theorem dX7_best_21 : decode cX7_best 21 = .ok (.getfield 10, 3) := by decide +kernel
theorem dX7_best_24 : decode cX7_best 24 = .ok (.getfield 139, 3) := by decide +kernel
theorem dX7_best_27 : decode cX7_best 27 = .ok (.if_icmp .ge 34, 3) := by decide +kernel
theorem dX7_best_30 : decode cX7_best 30 = .ok (.aload_n 0, 1) := by decide +kernel
theorem dX7_best_31 : decode cX7_best 31 = .ok (.iload_n 2, 1) := by decide +kernel
theorem dX7_best_32 : decode cX7_best 32 = .ok (.invokevirtual 167, 3) := by decide +kernel
theorem dX7_best_35 : decode cX7_best 35 = .ok (.ifCond .eq 20, 3) := by decide +kernel
theorem dX7_best_38 : decode cX7_best 38 = .ok (.aload_n 0, 1) := by decide +kernel
theorem dX7_best_39 : decode cX7_best 39 = .ok (.getfield 26, 3) := by decide +kernel
theorem dX7_best_42 : decode cX7_best 42 = .ok (.iload_n 2, 1) := by decide +kernel
theorem dX7_best_43 : decode cX7_best 43 = .ok (.aload_n 0, 1) := by decide +kernel
theorem dX7_best_44 : decode cX7_best 44 = .ok (.getfield 10, 3) := by decide +kernel
theorem dX7_best_47 : decode cX7_best 47 = .ok (.getfield 122, 3) := by decide +kernel
theorem dX7_best_50 : decode cX7_best 50 = .ok (.iload_n 2, 1) := by decide +kernel
theorem dX7_best_51 : decode cX7_best 51 = .ok (.iaload, 1) := by decide +kernel
theorem dX7_best_52 : decode cX7_best 52 = .ok (.invokevirtual 171, 3) := by decide +kernel
theorem dX7_best_55 : decode cX7_best 55 = .ok (.iinc 2 1, 3) := by decide +kernel
theorem dX7_best_58 : decode cX7_best 58 = .ok (.goto (-39), 3) := by decide +kernel
theorem dX7_best_61 : decode cX7_best 61 = .ok (.aload_n 0, 1) := by decide +kernel
theorem dX7_best_62 : decode cX7_best 62 = .ok (.iload_n 1, 1) := by decide +kernel
theorem dX7_best_63 : decode cX7_best 63 = .ok (.invokevirtual 175, 3) := by decide +kernel
theorem dX7_best_66 : decode cX7_best 66 = .ok (.ireturn, 1) := by decide +kernel
set_option maxRecDepth 20000 in
theorem ggX7_near_X7_refusePlace : GoodIn wsX7_near wsX7_refusePlace := goodIn_r _ [10, 11, 85, 86, 87, 88, 89, 90, 91, 92, 93] (by decide +kernel) (by decide +kernel)
set_option maxRecDepth 20000 in
theorem gX7_near_X7_refusePlace : GoodIn wsX7_near (wsV RX7 163 RX7 yX7_refusePlace wsX7_refusePlace) := goodIn_app (goodIn_of _ (by decide +kernel)) ggX7_near_X7_refusePlace
set_option maxRecDepth 20000 in
theorem ggX7_near_X2_makeEmpty : GoodIn wsX7_near wsX2_makeEmpty := goodIn_r _ [16, 17, 104, 105, 106] (by decide +kernel) (by decide +kernel)
set_option maxRecDepth 20000 in
theorem gX7_near_X2_makeEmpty : GoodIn wsX7_near (wsV RX7 166 RX2 yX2_makeEmpty wsX2_makeEmpty) := goodIn_app (goodIn_of _ (by decide +kernel)) ggX7_near_X2_makeEmpty
set_option maxRecDepth 20000 in
theorem ggX7_near_X7_beginsSo : GoodIn wsX7_near wsX7_beginsSo := goodIn_r _ [21, 2, 22, 23, 24, 25, 26, 27, 28, 29, 30, 31, 32, 33, 34, 35, 36, 37, 38, 39, 40, 41, 42, 43, 44, 45, 85, 86, 87, 88, 89, 90, 91, 92, 93, 94, 95, 96, 97, 98, 99, 100, 101, 102, 103] (by decide +kernel) (by decide +kernel)
set_option maxRecDepth 20000 in
theorem gX7_near_X7_beginsSo : GoodIn wsX7_near (wsV RX7 167 RX7 yX7_beginsSo wsX7_beginsSo) := goodIn_app (goodIn_of _ (by decide +kernel)) ggX7_near_X7_beginsSo
set_option maxRecDepth 20000 in
theorem ggX7_near_X2_insert : GoodIn wsX7_near wsX2_insert := goodIn_r _ [49, 17, 50, 51, 104, 105, 106] (by decide +kernel) (by decide +kernel)
set_option maxRecDepth 20000 in
theorem gX7_near_X2_insert : GoodIn wsX7_near (wsV RX7 171 RX2 yX2_insert wsX2_insert) := goodIn_app (goodIn_of _ (by decide +kernel)) ggX7_near_X2_insert
set_option maxRecDepth 20000 in
theorem ggX7_near_X7_isClose : GoodIn wsX7_near wsX7_isClose := goodIn_r _ [55, 2, 22, 23, 56, 57, 26, 58, 59, 25, 27, 28, 29, 30, 31, 32, 33, 34, 35, 36, 37, 38, 39, 40, 41, 42, 43, 44, 45, 60, 61, 62, 63, 64, 65, 66, 67, 68, 69, 70, 71, 72, 85, 86, 87, 88, 89, 90, 91, 92, 93, 94, 95, 96, 97, 98, 99, 100, 101, 102, 103] (by decide +kernel) (by decide +kernel)
set_option maxRecDepth 20000 in
theorem gX7_near_X7_isClose : GoodIn wsX7_near (wsV RX7 178 RX7 yX7_isClose wsX7_isClose) := goodIn_app (goodIn_of _ (by decide +kernel)) ggX7_near_X7_isClose
set_option maxRecDepth 20000 in
theorem ggX7_near_X7_listedAt : GoodIn wsX7_near wsX7_listedAt := goodIn_r _ [76, 1, 2, 77, 78, 79, 80, 81, 82, 15, 83, 17, 84, 51, 85, 86, 87, 88, 89, 90, 91, 92, 93, 104, 105, 106, 94, 95, 96, 97, 98, 99, 100, 101, 102, 103] (by decide +kernel) (by decide +kernel)
set_option maxRecDepth 20000 in
theorem gX7_near_X7_listedAt : GoodIn wsX7_near (wsV RX7 175 RX7 yX7_listedAt wsX7_listedAt) := goodIn_app (goodIn_of _ (by decide +kernel)) ggX7_near_X7_listedAt
theorem dX7_near_0 : decode cX7_near 0 = .ok (.iload_n 1, 1) := by decide +kernel
theorem dX7_near_1 : decode cX7_near 1 = .ok (.iconst (-1), 1) := by decide +kernel
theorem dX7_near_2 : decode cX7_near 2 = .ok (.if_icmp .ge 8, 3) := by decide +kernel
theorem dX7_near_5 : decode cX7_near 5 = .ok (.aload_n 0, 1) := by decide +kernel
theorem dX7_near_6 : decode cX7_near 6 = .ok (.invokevirtual 163, 3) := by decide +kernel
theorem dX7_near_9 : decode cX7_near 9 = .ok (.ireturn, 1) := by decide +kernel
theorem dX7_near_10 : decode cX7_near 10 = .ok (.aload_n 0, 1) := by decide +kernel
theorem dX7_near_11 : decode cX7_near 11 = .ok (.getfield 26, 3) := by decide +kernel
theorem dX7_near_14 : decode cX7_near 14 = .ok (.invokevirtual 166, 3) := by decide +kernel
theorem dX7_near_17 : decode cX7_near 17 = .ok (.iconst 0, 1) := by decide +kernel
theorem dX7_near_18 : decode cX7_near 18 = .ok (.istore_n 2, 1) := by decide +kernel
theorem dX7_near_19 : decode cX7_near 19 = .ok (.iload_n 2, 1) := by decide +kernel
theorem dX7_near_20 : decode cX7_near 20 = .ok (.aload_n 0, 1) := by decide +kernel
theorem dX7_near_21 : decode cX7_near 21 = .ok (.getfield 10, 3) := by decide +kernel
theorem dX7_near_24 : decode cX7_near 24 = .ok (.getfield 139, 3) := by decide +kernel
theorem dX7_near_27 : decode cX7_near 27 = .ok (.if_icmp .ge 70, 3) := by decide +kernel
theorem dX7_near_30 : decode cX7_near 30 = .ok (.aload_n 0, 1) := by decide +kernel
theorem dX7_near_31 : decode cX7_near 31 = .ok (.iload_n 2, 1) := by decide +kernel
theorem dX7_near_32 : decode cX7_near 32 = .ok (.invokevirtual 167, 3) := by decide +kernel
theorem dX7_near_35 : decode cX7_near 35 = .ok (.ifCond .eq 23, 3) := by decide +kernel
theorem dX7_near_38 : decode cX7_near 38 = .ok (.aload_n 0, 1) := by decide +kernel
theorem dX7_near_39 : decode cX7_near 39 = .ok (.getfield 26, 3) := by decide +kernel
theorem dX7_near_42 : decode cX7_near 42 = .ok (.iload_n 2, 1) := by decide +kernel
theorem dX7_near_43 : decode cX7_near 43 = .ok (.aload_n 0, 1) := by decide +kernel
theorem dX7_near_44 : decode cX7_near 44 = .ok (.getfield 10, 3) := by decide +kernel
theorem dX7_near_47 : decode cX7_near 47 = .ok (.getfield 122, 3) := by decide +kernel
theorem dX7_near_50 : decode cX7_near 50 = .ok (.iload_n 2, 1) := by decide +kernel
theorem dX7_near_51 : decode cX7_near 51 = .ok (.iaload, 1) := by decide +kernel
theorem dX7_near_52 : decode cX7_near 52 = .ok (.invokevirtual 171, 3) := by decide +kernel
theorem dX7_near_55 : decode cX7_near 55 = .ok (.goto 36, 3) := by decide +kernel
theorem dX7_near_58 : decode cX7_near 58 = .ok (.aload_n 0, 1) := by decide +kernel
theorem dX7_near_59 : decode cX7_near 59 = .ok (.iload_n 2, 1) := by decide +kernel
theorem dX7_near_60 : decode cX7_near 60 = .ok (.invokevirtual 178, 3) := by decide +kernel
theorem dX7_near_63 : decode cX7_near 63 = .ok (.ifCond .eq 28, 3) := by decide +kernel
theorem dX7_near_66 : decode cX7_near 66 = .ok (.aload_n 0, 1) := by decide +kernel
theorem dX7_near_67 : decode cX7_near 67 = .ok (.getfield 26, 3) := by decide +kernel
theorem dX7_near_70 : decode cX7_near 70 = .ok (.iload_n 2, 1) := by decide +kernel
theorem dX7_near_71 : decode cX7_near 71 = .ok (.aload_n 0, 1) := by decide +kernel
theorem dX7_near_72 : decode cX7_near 72 = .ok (.getfield 10, 3) := by decide +kernel
theorem dX7_near_75 : decode cX7_near 75 = .ok (.getfield 122, 3) := by decide +kernel
theorem dX7_near_78 : decode cX7_near 78 = .ok (.iload_n 2, 1) := by decide +kernel
theorem dX7_near_79 : decode cX7_near 79 = .ok (.iaload, 1) := by decide +kernel
theorem dX7_near_80 : decode cX7_near 80 = .ok (.aload_n 0, 1) := by decide +kernel
theorem dX7_near_81 : decode cX7_near 81 = .ok (.getfield 10, 3) := by decide +kernel
theorem dX7_near_84 : decode cX7_near 84 = .ok (.getfield 133, 3) := by decide +kernel
theorem dX7_near_87 : decode cX7_near 87 = .ok (.isub, 1) := by decide +kernel
theorem dX7_near_88 : decode cX7_near 88 = .ok (.invokevirtual 171, 3) := by decide +kernel
theorem dX7_near_91 : decode cX7_near 91 = .ok (.iinc 2 1, 3) := by decide +kernel
theorem dX7_near_94 : decode cX7_near 94 = .ok (.goto (-75), 3) := by decide +kernel
theorem dX7_near_97 : decode cX7_near 97 = .ok (.aload_n 0, 1) := by decide +kernel
theorem dX7_near_98 : decode cX7_near 98 = .ok (.iload_n 1, 1) := by decide +kernel
theorem dX7_near_99 : decode cX7_near 99 = .ok (.invokevirtual 175, 3) := by decide +kernel
theorem dX7_near_102 : decode cX7_near 102 = .ok (.ireturn, 1) := by decide +kernel
set_option maxRecDepth 20000 in
theorem ggX7_top_X7_beginsSo : GoodIn wsX7_top wsX7_beginsSo := goodIn_r _ [12, 1, 13, 14, 15, 16, 17, 18, 19, 20, 21, 22, 23, 24, 25, 26, 27, 28, 29, 30, 31, 32, 33, 34, 35, 36, 37, 38, 39, 40, 41, 42, 43, 44, 45, 46, 47, 48, 49, 50, 51, 52, 53, 54, 55] (by decide +kernel) (by decide +kernel)
set_option maxRecDepth 20000 in
theorem gX7_top_X7_beginsSo : GoodIn wsX7_top (wsV RX7 167 RX7 yX7_beginsSo wsX7_beginsSo) := goodIn_app (goodIn_of _ (by decide +kernel)) ggX7_top_X7_beginsSo
theorem dX7_top_0 : decode cX7_top 0 = .ok (.iconst (-1), 1) := by decide +kernel
theorem dX7_top_1 : decode cX7_top 1 = .ok (.istore_n 1, 1) := by decide +kernel
theorem dX7_top_2 : decode cX7_top 2 = .ok (.iconst 0, 1) := by decide +kernel
theorem dX7_top_3 : decode cX7_top 3 = .ok (.istore_n 2, 1) := by decide +kernel
theorem dX7_top_4 : decode cX7_top 4 = .ok (.iload_n 2, 1) := by decide +kernel
theorem dX7_top_5 : decode cX7_top 5 = .ok (.aload_n 0, 1) := by decide +kernel
theorem dX7_top_6 : decode cX7_top 6 = .ok (.getfield 10, 3) := by decide +kernel
theorem dX7_top_9 : decode cX7_top 9 = .ok (.getfield 139, 3) := by decide +kernel
theorem dX7_top_12 : decode cX7_top 12 = .ok (.if_icmp .ge 31, 3) := by decide +kernel
theorem dX7_top_15 : decode cX7_top 15 = .ok (.aload_n 0, 1) := by decide +kernel
theorem dX7_top_16 : decode cX7_top 16 = .ok (.iload_n 2, 1) := by decide +kernel
theorem dX7_top_17 : decode cX7_top 17 = .ok (.invokevirtual 167, 3) := by decide +kernel
theorem dX7_top_20 : decode cX7_top 20 = .ok (.ifCond .eq 17, 3) := by decide +kernel
theorem dX7_top_23 : decode cX7_top 23 = .ok (.iload_n 1, 1) := by decide +kernel
theorem dX7_top_24 : decode cX7_top 24 = .ok (.aload_n 0, 1) := by decide +kernel
theorem dX7_top_25 : decode cX7_top 25 = .ok (.getfield 10, 3) := by decide +kernel
theorem dX7_top_28 : decode cX7_top 28 = .ok (.getfield 122, 3) := by decide +kernel
theorem dX7_top_31 : decode cX7_top 31 = .ok (.iload_n 2, 1) := by decide +kernel
theorem dX7_top_32 : decode cX7_top 32 = .ok (.iaload, 1) := by decide +kernel
theorem dX7_top_33 : decode cX7_top 33 = .ok (.invokestatic 181, 3) := by decide +kernel
theorem dX7_top_36 : decode cX7_top 36 = .ok (.istore_n 1, 1) := by decide +kernel
theorem dX7_top_37 : decode cX7_top 37 = .ok (.iinc 2 1, 3) := by decide +kernel
theorem dX7_top_40 : decode cX7_top 40 = .ok (.goto (-36), 3) := by decide +kernel
theorem dX7_top_43 : decode cX7_top 43 = .ok (.iload_n 1, 1) := by decide +kernel
theorem dX7_top_44 : decode cX7_top 44 = .ok (.ireturn, 1) := by decide +kernel
set_option maxRecDepth 20000 in
theorem ggX7_under_X7_beginsSo : GoodIn wsX7_under wsX7_beginsSo := goodIn_r _ [7, 1, 8, 9, 10, 11, 12, 13, 14, 15, 16, 17, 18, 19, 20, 21, 22, 23, 24, 25, 26, 27, 28, 29, 30, 31, 32, 33, 34, 35, 36, 37, 38, 39, 40, 41, 42, 43, 44, 45, 46, 47, 48, 49, 50] (by decide +kernel) (by decide +kernel)
set_option maxRecDepth 20000 in
theorem gX7_under_X7_beginsSo : GoodIn wsX7_under (wsV RX7 167 RX7 yX7_beginsSo wsX7_beginsSo) := goodIn_app (goodIn_of _ (by decide +kernel)) ggX7_under_X7_beginsSo
theorem dX7_under_0 : decode cX7_under 0 = .ok (.iconst 0, 1) := by decide +kernel
theorem dX7_under_1 : decode cX7_under 1 = .ok (.istore_n 1, 1) := by decide +kernel
theorem dX7_under_2 : decode cX7_under 2 = .ok (.iconst 0, 1) := by decide +kernel
theorem dX7_under_3 : decode cX7_under 3 = .ok (.istore_n 2, 1) := by decide +kernel
theorem dX7_under_4 : decode cX7_under 4 = .ok (.iload_n 2, 1) := by decide +kernel
theorem dX7_under_5 : decode cX7_under 5 = .ok (.aload_n 0, 1) := by decide +kernel
theorem dX7_under_6 : decode cX7_under 6 = .ok (.getfield 10, 3) := by decide +kernel
theorem dX7_under_9 : decode cX7_under 9 = .ok (.getfield 139, 3) := by decide +kernel
theorem dX7_under_12 : decode cX7_under 12 = .ok (.if_icmp .ge 20, 3) := by decide +kernel
theorem dX7_under_15 : decode cX7_under 15 = .ok (.aload_n 0, 1) := by decide +kernel
theorem dX7_under_16 : decode cX7_under 16 = .ok (.iload_n 2, 1) := by decide +kernel
theorem dX7_under_17 : decode cX7_under 17 = .ok (.invokevirtual 167, 3) := by decide +kernel
theorem dX7_under_20 : decode cX7_under 20 = .ok (.ifCond .eq 6, 3) := by decide +kernel
theorem dX7_under_23 : decode cX7_under 23 = .ok (.iinc 1 1, 3) := by decide +kernel
theorem dX7_under_26 : decode cX7_under 26 = .ok (.iinc 2 1, 3) := by decide +kernel
theorem dX7_under_29 : decode cX7_under 29 = .ok (.goto (-25), 3) := by decide +kernel
theorem dX7_under_32 : decode cX7_under 32 = .ok (.iload_n 1, 1) := by decide +kernel
theorem dX7_under_33 : decode cX7_under 33 = .ok (.ireturn, 1) := by decide +kernel
set_option maxRecDepth 20000 in
theorem ggX7_close_X7_isClose : GoodIn wsX7_close wsX7_isClose := goodIn_r _ [7, 1, 8, 9, 10, 11, 12, 13, 14, 15, 16, 17, 18, 19, 20, 21, 22, 23, 24, 25, 26, 27, 28, 29, 30, 31, 32, 33, 34, 35, 36, 37, 38, 39, 40, 41, 42, 43, 44, 45, 46, 47, 48, 49, 50, 51, 52, 53, 54, 55, 56, 57, 58, 59, 60, 61, 62, 63, 64, 65, 66] (by decide +kernel) (by decide +kernel)
set_option maxRecDepth 20000 in
theorem gX7_close_X7_isClose : GoodIn wsX7_close (wsV RX7 178 RX7 yX7_isClose wsX7_isClose) := goodIn_app (goodIn_of _ (by decide +kernel)) ggX7_close_X7_isClose
theorem dX7_close_0 : decode cX7_close 0 = .ok (.iconst 0, 1) := by decide +kernel
theorem dX7_close_1 : decode cX7_close 1 = .ok (.istore_n 1, 1) := by decide +kernel
theorem dX7_close_2 : decode cX7_close 2 = .ok (.iconst 0, 1) := by decide +kernel
theorem dX7_close_3 : decode cX7_close 3 = .ok (.istore_n 2, 1) := by decide +kernel
theorem dX7_close_4 : decode cX7_close 4 = .ok (.iload_n 2, 1) := by decide +kernel
theorem dX7_close_5 : decode cX7_close 5 = .ok (.aload_n 0, 1) := by decide +kernel
theorem dX7_close_6 : decode cX7_close 6 = .ok (.getfield 10, 3) := by decide +kernel
theorem dX7_close_9 : decode cX7_close 9 = .ok (.getfield 139, 3) := by decide +kernel
theorem dX7_close_12 : decode cX7_close 12 = .ok (.if_icmp .ge 20, 3) := by decide +kernel
theorem dX7_close_15 : decode cX7_close 15 = .ok (.aload_n 0, 1) := by decide +kernel
theorem dX7_close_16 : decode cX7_close 16 = .ok (.iload_n 2, 1) := by decide +kernel
theorem dX7_close_17 : decode cX7_close 17 = .ok (.invokevirtual 178, 3) := by decide +kernel
theorem dX7_close_20 : decode cX7_close 20 = .ok (.ifCond .eq 6, 3) := by decide +kernel
theorem dX7_close_23 : decode cX7_close 23 = .ok (.iinc 1 1, 3) := by decide +kernel
theorem dX7_close_26 : decode cX7_close 26 = .ok (.iinc 2 1, 3) := by decide +kernel
theorem dX7_close_29 : decode cX7_close 29 = .ok (.goto (-25), 3) := by decide +kernel
theorem dX7_close_32 : decode cX7_close 32 = .ok (.iload_n 1, 1) := by decide +kernel
