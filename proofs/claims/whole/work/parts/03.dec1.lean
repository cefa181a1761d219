theorem dX0_init_0 : decode cX0_init 0 = .ok (.aload_n 0, 1) := by decide +kernel
theorem dX0_init_1 : decode cX0_init 1 = .ok (.invokespecial 3, 3) := by decide +kernel
theorem dX0_init_4 : decode cX0_init 4 = .ok (.aload_n 0, 1) := by decide +kernel
theorem dX0_init_5 : decode cX0_init 5 = .ok (.bipush 40, 2) := by decide +kernel
theorem dX0_init_7 : decode cX0_init 7 = .ok (.newarray .int, 2) := by decide +kernel
theorem dX0_init_9 : decode cX0_init 9 = .ok (.putfield 9, 3) := by decide +kernel
theorem dX0_init_12 : decode cX0_init 12 = .ok (.aload_n 0, 1) := by decide +kernel
theorem dX0_init_13 : decode cX0_init 13 = .ok (.bipush 40, 2) := by decide +kernel
theorem dX0_init_15 : decode cX0_init 15 = .ok (.newarray .long, 2) := by decide +kernel
theorem dX0_init_17 : decode cX0_init 17 = .ok (.putfield 15, 3) := by decide +kernel
theorem dX0_init_20 : decode cX0_init 20 = .ok (.aload_n 0, 1) := by decide +kernel
theorem dX0_init_21 : decode cX0_init 21 = .ok (.bipush 40, 2) := by decide +kernel
theorem dX0_init_23 : decode cX0_init 23 = .ok (.newarray .int, 2) := by decide +kernel
theorem dX0_init_25 : decode cX0_init 25 = .ok (.putfield 19, 3) := by decide +kernel
theorem dX0_init_28 : decode cX0_init 28 = .ok (.aload_n 0, 1) := by decide +kernel
theorem dX0_init_29 : decode cX0_init 29 = .ok (.bipush 40, 2) := by decide +kernel
theorem dX0_init_31 : decode cX0_init 31 = .ok (.newarray .int, 2) := by decide +kernel
theorem dX0_init_33 : decode cX0_init 33 = .ok (.putfield 22, 3) := by decide +kernel
theorem dX0_init_36 : decode cX0_init 36 = .ok (.aload_n 0, 1) := by decide +kernel
theorem dX0_init_37 : decode cX0_init 37 = .ok (.bipush 40, 2) := by decide +kernel
theorem dX0_init_39 : decode cX0_init 39 = .ok (.newarray .int, 2) := by decide +kernel
theorem dX0_init_41 : decode cX0_init 41 = .ok (.putfield 25, 3) := by decide +kernel
theorem dX0_init_44 : decode cX0_init 44 = .ok (.aload_n 0, 1) := by decide +kernel
theorem dX0_init_45 : decode cX0_init 45 = .ok (.bipush 40, 2) := by decide +kernel
theorem dX0_init_47 : decode cX0_init 47 = .ok (.newarray .int, 2) := by decide +kernel
theorem dX0_init_49 : decode cX0_init 49 = .ok (.putfield 28, 3) := by decide +kernel
theorem dX0_init_52 : decode cX0_init 52 = .ok (.aload_n 0, 1) := by decide +kernel
theorem dX0_init_53 : decode cX0_init 53 = .ok (.iconst 0, 1) := by decide +kernel
theorem dX0_init_54 : decode cX0_init 54 = .ok (.putfield 31, 3) := by decide +kernel
theorem dX0_init_57 : decode cX0_init 57 = .ok (.aload_n 0, 1) := by decide +kernel
theorem dX0_init_58 : decode cX0_init 58 = .ok (.iconst 0, 1) := by decide +kernel
theorem dX0_init_59 : decode cX0_init 59 = .ok (.putfield 35, 3) := by decide +kernel
theorem dX0_init_62 : decode cX0_init 62 = .ok (.aload_n 0, 1) := by decide +kernel
theorem dX0_init_63 : decode cX0_init 63 = .ok (.iconst 0, 1) := by decide +kernel
theorem dX0_init_64 : decode cX0_init 64 = .ok (.putfield 38, 3) := by decide +kernel
theorem dX0_init_67 : decode cX0_init 67 = .ok (.aload_n 0, 1) := by decide +kernel
theorem dX0_init_68 : decode cX0_init 68 = .ok (.bipush 100, 2) := by decide +kernel
theorem dX0_init_70 : decode cX0_init 70 = .ok (.putfield 41, 3) := by decide +kernel
theorem dX0_init_73 : decode cX0_init 73 = .ok (.return_, 1) := by decide +kernel
theorem dX0_makeEmpty_0 : decode cX0_makeEmpty 0 = .ok (.aload_n 0, 1) := by decide +kernel
theorem dX0_makeEmpty_1 : decode cX0_makeEmpty 1 = .ok (.iconst 0, 1) := by decide +kernel
theorem dX0_makeEmpty_2 : decode cX0_makeEmpty 2 = .ok (.putfield 31, 3) := by decide +kernel
theorem dX0_makeEmpty_5 : decode cX0_makeEmpty 5 = .ok (.aload_n 0, 1) := by decide +kernel
theorem dX0_makeEmpty_6 : decode cX0_makeEmpty 6 = .ok (.iconst 0, 1) := by decide +kernel
theorem dX0_makeEmpty_7 : decode cX0_makeEmpty 7 = .ok (.putfield 35, 3) := by decide +kernel
theorem dX0_makeEmpty_10 : decode cX0_makeEmpty 10 = .ok (.aload_n 0, 1) := by decide +kernel
theorem dX0_makeEmpty_11 : decode cX0_makeEmpty 11 = .ok (.iconst 0, 1) := by decide +kernel
theorem dX0_makeEmpty_12 : decode cX0_makeEmpty 12 = .ok (.putfield 38, 3) := by decide +kernel
theorem dX0_makeEmpty_15 : decode cX0_makeEmpty 15 = .ok (.aload_n 0, 1) := by decide +kernel
theorem dX0_makeEmpty_16 : decode cX0_makeEmpty 16 = .ok (.bipush 100, 2) := by decide +kernel
theorem dX0_makeEmpty_18 : decode cX0_makeEmpty 18 = .ok (.putfield 41, 3) := by decide +kernel
theorem dX0_makeEmpty_21 : decode cX0_makeEmpty 21 = .ok (.return_, 1) := by decide +kernel
set_option maxRecDepth 20000 in
theorem ggX0_copyFrom_X0_moveInto : GoodIn wsX0_copyFrom wsX0_moveInto := goodIn_r _ [9, 10, 11, 12, 13, 14, 15, 16, 17, 18, 19, 20, 21, 22, 23, 24, 25] (by decide +kernel) (by decide +kernel)
set_option maxRecDepth 20000 in
theorem gX0_copyFrom_X0_moveInto : GoodIn wsX0_copyFrom (wsV RX0 44 RX0 yX0_moveInto wsX0_moveInto) := goodIn_app (goodIn_of _ (by decide +kernel)) ggX0_copyFrom_X0_moveInto
theorem dX0_copyFrom_0 : decode cX0_copyFrom 0 = .ok (.iconst 0, 1) := by decide +kernel
theorem dX0_copyFrom_1 : decode cX0_copyFrom 1 = .ok (.istore_n 2, 1) := by decide +kernel
theorem dX0_copyFrom_2 : decode cX0_copyFrom 2 = .ok (.iload_n 2, 1) := by decide +kernel
theorem dX0_copyFrom_3 : decode cX0_copyFrom 3 = .ok (.aload_n 1, 1) := by decide +kernel
theorem dX0_copyFrom_4 : decode cX0_copyFrom 4 = .ok (.getfield 31, 3) := by decide +kernel
theorem dX0_copyFrom_7 : decode cX0_copyFrom 7 = .ok (.if_icmp .ge 16, 3) := by decide +kernel
theorem dX0_copyFrom_10 : decode cX0_copyFrom 10 = .ok (.aload_n 0, 1) := by decide +kernel
theorem dX0_copyFrom_11 : decode cX0_copyFrom 11 = .ok (.iload_n 2, 1) := by decide +kernel
theorem dX0_copyFrom_12 : decode cX0_copyFrom 12 = .ok (.aload_n 1, 1) := by decide +kernel
theorem dX0_copyFrom_13 : decode cX0_copyFrom 13 = .ok (.iload_n 2, 1) := by decide +kernel
theorem dX0_copyFrom_14 : decode cX0_copyFrom 14 = .ok (.invokevirtual 44, 3) := by decide +kernel
theorem dX0_copyFrom_17 : decode cX0_copyFrom 17 = .ok (.iinc 2 1, 3) := by decide +kernel
theorem dX0_copyFrom_20 : decode cX0_copyFrom 20 = .ok (.goto (-18), 3) := by decide +kernel
theorem dX0_copyFrom_23 : decode cX0_copyFrom 23 = .ok (.aload_n 0, 1) := by decide +kernel
theorem dX0_copyFrom_24 : decode cX0_copyFrom 24 = .ok (.aload_n 1, 1) := by decide +kernel
theorem dX0_copyFrom_25 : decode cX0_copyFrom 25 = .ok (.getfield 31, 3) := by decide +kernel
theorem dX0_copyFrom_28 : decode cX0_copyFrom 28 = .ok (.putfield 31, 3) := by decide +kernel
theorem dX0_copyFrom_31 : decode cX0_copyFrom 31 = .ok (.aload_n 0, 1) := by decide +kernel
theorem dX0_copyFrom_32 : decode cX0_copyFrom 32 = .ok (.aload_n 1, 1) := by decide +kernel
theorem dX0_copyFrom_33 : decode cX0_copyFrom 33 = .ok (.getfield 35, 3) := by decide +kernel
theorem dX0_copyFrom_36 : decode cX0_copyFrom 36 = .ok (.putfield 35, 3) := by decide +kernel
theorem dX0_copyFrom_39 : decode cX0_copyFrom 39 = .ok (.aload_n 0, 1) := by decide +kernel
theorem dX0_copyFrom_40 : decode cX0_copyFrom 40 = .ok (.aload_n 1, 1) := by decide +kernel
theorem dX0_copyFrom_41 : decode cX0_copyFrom 41 = .ok (.getfield 38, 3) := by decide +kernel
theorem dX0_copyFrom_44 : decode cX0_copyFrom 44 = .ok (.putfield 38, 3) := by decide +kernel
theorem dX0_copyFrom_47 : decode cX0_copyFrom 47 = .ok (.aload_n 0, 1) := by decide +kernel
theorem dX0_copyFrom_48 : decode cX0_copyFrom 48 = .ok (.aload_n 1, 1) := by decide +kernel
theorem dX0_copyFrom_49 : decode cX0_copyFrom 49 = .ok (.getfield 41, 3) := by decide +kernel
theorem dX0_copyFrom_52 : decode cX0_copyFrom 52 = .ok (.putfield 41, 3) := by decide +kernel
theorem dX0_copyFrom_55 : decode cX0_copyFrom 55 = .ok (.return_, 1) := by decide +kernel
theorem dX0_moveInto_0 : decode cX0_moveInto 0 = .ok (.aload_n 0, 1) := by decide +kernel
theorem dX0_moveInto_1 : decode cX0_moveInto 1 = .ok (.getfield 9, 3) := by decide +kernel
theorem dX0_moveInto_4 : decode cX0_moveInto 4 = .ok (.iload_n 1, 1) := by decide +kernel
theorem dX0_moveInto_5 : decode cX0_moveInto 5 = .ok (.aload_n 2, 1) := by decide +kernel
theorem dX0_moveInto_6 : decode cX0_moveInto 6 = .ok (.getfield 9, 3) := by decide +kernel
theorem dX0_moveInto_9 : decode cX0_moveInto 9 = .ok (.iload_n 3, 1) := by decide +kernel
theorem dX0_moveInto_10 : decode cX0_moveInto 10 = .ok (.iaload, 1) := by decide +kernel
theorem dX0_moveInto_11 : decode cX0_moveInto 11 = .ok (.iastore, 1) := by decide +kernel
theorem dX0_moveInto_12 : decode cX0_moveInto 12 = .ok (.aload_n 0, 1) := by decide +kernel
theorem dX0_moveInto_13 : decode cX0_moveInto 13 = .ok (.getfield 15, 3) := by decide +kernel
theorem dX0_moveInto_16 : decode cX0_moveInto 16 = .ok (.iload_n 1, 1) := by decide +kernel
theorem dX0_moveInto_17 : decode cX0_moveInto 17 = .ok (.aload_n 2, 1) := by decide +kernel
theorem dX0_moveInto_18 : decode cX0_moveInto 18 = .ok (.getfield 15, 3) := by decide +kernel
theorem dX0_moveInto_21 : decode cX0_moveInto 21 = .ok (.iload_n 3, 1) := by decide +kernel
theorem dX0_moveInto_22 : decode cX0_moveInto 22 = .ok (.laload, 1) := by decide +kernel
theorem dX0_moveInto_23 : decode cX0_moveInto 23 = .ok (.lastore, 1) := by decide +kernel
theorem dX0_moveInto_24 : decode cX0_moveInto 24 = .ok (.aload_n 0, 1) := by decide +kernel
theorem dX0_moveInto_25 : decode cX0_moveInto 25 = .ok (.getfield 19, 3) := by decide +kernel
theorem dX0_moveInto_28 : decode cX0_moveInto 28 = .ok (.iload_n 1, 1) := by decide +kernel
theorem dX0_moveInto_29 : decode cX0_moveInto 29 = .ok (.aload_n 2, 1) := by decide +kernel
theorem dX0_moveInto_30 : decode cX0_moveInto 30 = .ok (.getfield 19, 3) := by decide +kernel
theorem dX0_moveInto_33 : decode cX0_moveInto 33 = .ok (.iload_n 3, 1) := by decide +kernel
theorem dX0_moveInto_34 : decode cX0_moveInto 34 = .ok (.iaload, 1) := by decide +kernel
theorem dX0_moveInto_35 : decode cX0_moveInto 35 = .ok (.iastore, 1) := by decide +kernel
theorem dX0_moveInto_36 : decode cX0_moveInto 36 = .ok (.aload_n 0, 1) := by decide +kernel
theorem dX0_moveInto_37 : decode cX0_moveInto 37 = .ok (.getfield 22, 3) := by decide +kernel
theorem dX0_moveInto_40 : decode cX0_moveInto 40 = .ok (.iload_n 1, 1) := by decide +kernel
theorem dX0_moveInto_41 : decode cX0_moveInto 41 = .ok (.aload_n 2, 1) := by decide +kernel
theorem dX0_moveInto_42 : decode cX0_moveInto 42 = .ok (.getfield 22, 3) := by decide +kernel
theorem dX0_moveInto_45 : decode cX0_moveInto 45 = .ok (.iload_n 3, 1) := by decide +kernel
theorem dX0_moveInto_46 : decode cX0_moveInto 46 = .ok (.iaload, 1) := by decide +kernel
theorem dX0_moveInto_47 : decode cX0_moveInto 47 = .ok (.iastore, 1) := by decide +kernel
theorem dX0_moveInto_48 : decode cX0_moveInto 48 = .ok (.aload_n 0, 1) := by decide +kernel
theorem dX0_moveInto_49 : decode cX0_moveInto 49 = .ok (.getfield 25, 3) := by decide +kernel
theorem dX0_moveInto_52 : decode cX0_moveInto 52 = .ok (.iload_n 1, 1) := by decide +kernel
theorem dX0_moveInto_53 : decode cX0_moveInto 53 = .ok (.aload_n 2, 1) := by decide +kernel
theorem dX0_moveInto_54 : decode cX0_moveInto 54 = .ok (.getfield 25, 3) := by decide +kernel
theorem dX0_moveInto_57 : decode cX0_moveInto 57 = .ok (.iload_n 3, 1) := by decide +kernel
theorem dX0_moveInto_58 : decode cX0_moveInto 58 = .ok (.iaload, 1) := by decide +kernel
theorem dX0_moveInto_59 : decode cX0_moveInto 59 = .ok (.iastore, 1) := by decide +kernel
theorem dX0_moveInto_60 : decode cX0_moveInto 60 = .ok (.aload_n 0, 1) := by decide +kernel
theorem dX0_moveInto_61 : decode cX0_moveInto 61 = .ok (.getfield 28, 3) := by decide +kernel
theorem dX0_moveInto_64 : decode cX0_moveInto 64 = .ok (.iload_n 1, 1) := by decide +kernel
theorem dX0_moveInto_65 : decode cX0_moveInto 65 = .ok (.aload_n 2, 1) := by decide +kernel
theorem dX0_moveInto_66 : decode cX0_moveInto 66 = .ok (.getfield 28, 3) := by decide +kernel
theorem dX0_moveInto_69 : decode cX0_moveInto 69 = .ok (.iload_n 3, 1) := by decide +kernel
theorem dX0_moveInto_70 : decode cX0_moveInto 70 = .ok (.iaload, 1) := by decide +kernel
theorem dX0_moveInto_71 : decode cX0_moveInto 71 = .ok (.iastore, 1) := by decide +kernel
theorem dX0_moveInto_72 : decode cX0_moveInto 72 = .ok (.return_, 1) := by decide +kernel
theorem dX0_slotOf_0 : decode cX0_slotOf 0 = .ok (.iconst 0, 1) := by decide +kernel
theorem dX0_slotOf_1 : decode cX0_slotOf 1 = .ok (.istore_n 2, 1) := by decide +kernel
theorem dX0_slotOf_2 : decode cX0_slotOf 2 = .ok (.iload_n 2, 1) := by decide +kernel
theorem dX0_slotOf_3 : decode cX0_slotOf 3 = .ok (.aload_n 0, 1) := by decide +kernel
theorem dX0_slotOf_4 : decode cX0_slotOf 4 = .ok (.getfield 31, 3) := by decide +kernel
theorem dX0_slotOf_7 : decode cX0_slotOf 7 = .ok (.if_icmp .ge 21, 3) := by decide +kernel
theorem dX0_slotOf_10 : decode cX0_slotOf 10 = .ok (.aload_n 0, 1) := by decide +kernel
theorem dX0_slotOf_11 : decode cX0_slotOf 11 = .ok (.getfield 9, 3) := by decide +kernel
theorem dX0_slotOf_14 : decode cX0_slotOf 14 = .ok (.iload_n 2, 1) := by decide +kernel
theorem dX0_slotOf_15 : decode cX0_slotOf 15 = .ok (.iaload, 1) := by decide +kernel
theorem dX0_slotOf_16 : decode cX0_slotOf 16 = .ok (.iload_n 1, 1) := by decide +kernel
theorem dX0_slotOf_17 : decode cX0_slotOf 17 = .ok (.if_icmp .ne 5, 3) := by decide +kernel
theorem dX0_slotOf_20 : decode cX0_slotOf 20 = .ok (.iload_n 2, 1) := by decide +kernel
theorem dX0_slotOf_21 : decode cX0_slotOf 21 = .ok (.ireturn, 1) := by decide +kernel
theorem dX0_slotOf_22 : decode cX0_slotOf 22 = .ok (.iinc 2 1, 3) := by decide +kernel
theorem dX0_slotOf_25 : decode cX0_slotOf 25 = .ok (.goto (-23), 3) := by decide +kernel
theorem dX0_slotOf_28 : decode cX0_slotOf 28 = .ok (.iconst (-1), 1) := by decide +kernel
theorem dX0_slotOf_29 : decode cX0_slotOf 29 = .ok (.ireturn, 1) := by decide +kernel
theorem dX0_slotSpelled_0 : decode cX0_slotSpelled 0 = .ok (.iconst 0, 1) := by decide +kernel
theorem dX0_slotSpelled_1 : decode cX0_slotSpelled 1 = .ok (.istore_n 3, 1) := by decide +kernel
theorem dX0_slotSpelled_2 : decode cX0_slotSpelled 2 = .ok (.iload_n 3, 1) := by decide +kernel
theorem dX0_slotSpelled_3 : decode cX0_slotSpelled 3 = .ok (.aload_n 0, 1) := by decide +kernel
theorem dX0_slotSpelled_4 : decode cX0_slotSpelled 4 = .ok (.getfield 31, 3) := by decide +kernel
theorem dX0_slotSpelled_7 : decode cX0_slotSpelled 7 = .ok (.if_icmp .ge 22, 3) := by decide +kernel
theorem dX0_slotSpelled_10 : decode cX0_slotSpelled 10 = .ok (.aload_n 0, 1) := by decide +kernel
theorem dX0_slotSpelled_11 : decode cX0_slotSpelled 11 = .ok (.getfield 15, 3) := by decide +kernel
theorem dX0_slotSpelled_14 : decode cX0_slotSpelled 14 = .ok (.iload_n 3, 1) := by decide +kernel
theorem dX0_slotSpelled_15 : decode cX0_slotSpelled 15 = .ok (.laload, 1) := by decide +kernel
theorem dX0_slotSpelled_16 : decode cX0_slotSpelled 16 = .ok (.lload_n 1, 1) := by decide +kernel
theorem dX0_slotSpelled_17 : decode cX0_slotSpelled 17 = .ok (.lcmp, 1) := by decide +kernel
theorem dX0_slotSpelled_18 : decode cX0_slotSpelled 18 = .ok (.ifCond .ne 5, 3) := by decide +kernel
theorem dX0_slotSpelled_21 : decode cX0_slotSpelled 21 = .ok (.iload_n 3, 1) := by decide +kernel
theorem dX0_slotSpelled_22 : decode cX0_slotSpelled 22 = .ok (.ireturn, 1) := by decide +kernel
theorem dX0_slotSpelled_23 : decode cX0_slotSpelled 23 = .ok (.iinc 3 1, 3) := by decide +kernel
theorem dX0_slotSpelled_26 : decode cX0_slotSpelled 26 = .ok (.goto (-24), 3) := by decide +kernel
theorem dX0_slotSpelled_29 : decode cX0_slotSpelled 29 = .ok (.iconst (-1), 1) := by decide +kernel
theorem dX0_slotSpelled_30 : decode cX0_slotSpelled 30 = .ok (.ireturn, 1) := by decide +kernel
theorem dX0_hasRoom_0 : decode cX0_hasRoom 0 = .ok (.aload_n 0, 1) := by decide +kernel
theorem dX0_hasRoom_1 : decode cX0_hasRoom 1 = .ok (.getfield 31, 3) := by decide +kernel
theorem dX0_hasRoom_4 : decode cX0_hasRoom 4 = .ok (.bipush 40, 2) := by decide +kernel
theorem dX0_hasRoom_6 : decode cX0_hasRoom 6 = .ok (.if_icmp .ge 17, 3) := by decide +kernel
theorem dX0_hasRoom_9 : decode cX0_hasRoom 9 = .ok (.aload_n 0, 1) := by decide +kernel
theorem dX0_hasRoom_10 : decode cX0_hasRoom 10 = .ok (.getfield 35, 3) := by decide +kernel
theorem dX0_hasRoom_13 : decode cX0_hasRoom 13 = .ok (.sipush 200, 3) := by decide +kernel
theorem dX0_hasRoom_16 : decode cX0_hasRoom 16 = .ok (.if_icmp .ge 7, 3) := by decide +kernel
theorem dX0_hasRoom_19 : decode cX0_hasRoom 19 = .ok (.iconst 1, 1) := by decide +kernel
theorem dX0_hasRoom_20 : decode cX0_hasRoom 20 = .ok (.goto 4, 3) := by decide +kernel
theorem dX0_hasRoom_23 : decode cX0_hasRoom 23 = .ok (.iconst 0, 1) := by decide +kernel
theorem dX0_hasRoom_24 : decode cX0_hasRoom 24 = .ok (.ireturn, 1) := by decide +kernel
set_option maxRecDepth 20000 in
theorem ggX0_append_X0_hasRoom : GoodIn wsX0_append wsX0_hasRoom := goodIn_r _ [13, 2, 3, 14, 15, 16, 17, 18, 19, 20, 21, 22, 23] (by decide +kernel) (by decide +kernel)
set_option maxRecDepth 20000 in
theorem gX0_append_X0_hasRoom : GoodIn wsX0_append (wsV RX0 48 RX0 yX0_hasRoom wsX0_hasRoom) := goodIn_app (goodIn_of _ (by decide +kernel)) ggX0_append_X0_hasRoom
theorem dX0_append_0 : decode cX0_append 0 = .ok (.aload_n 0, 1) := by decide +kernel
theorem dX0_append_1 : decode cX0_append 1 = .ok (.invokevirtual 48, 3) := by decide +kernel
theorem dX0_append_4 : decode cX0_append 4 = .ok (.ifCond .ne 5, 3) := by decide +kernel
theorem dX0_append_7 : decode cX0_append 7 = .ok (.iconst (-1), 1) := by decide +kernel
theorem dX0_append_8 : decode cX0_append 8 = .ok (.ireturn, 1) := by decide +kernel
theorem dX0_append_9 : decode cX0_append 9 = .ok (.aload_n 0, 1) := by decide +kernel
theorem dX0_append_10 : decode cX0_append 10 = .ok (.getfield 9, 3) := by decide +kernel
theorem dX0_append_13 : decode cX0_append 13 = .ok (.aload_n 0, 1) := by decide +kernel
theorem dX0_append_14 : decode cX0_append 14 = .ok (.getfield 31, 3) := by decide +kernel
theorem dX0_append_17 : decode cX0_append 17 = .ok (.aload_n 0, 1) := by decide +kernel
theorem dX0_append_18 : decode cX0_append 18 = .ok (.getfield 35, 3) := by decide +kernel
theorem dX0_append_21 : decode cX0_append 21 = .ok (.iastore, 1) := by decide +kernel
theorem dX0_append_22 : decode cX0_append 22 = .ok (.aload_n 0, 1) := by decide +kernel
theorem dX0_append_23 : decode cX0_append 23 = .ok (.getfield 15, 3) := by decide +kernel
theorem dX0_append_26 : decode cX0_append 26 = .ok (.aload_n 0, 1) := by decide +kernel
theorem dX0_append_27 : decode cX0_append 27 = .ok (.getfield 31, 3) := by decide +kernel
theorem dX0_append_30 : decode cX0_append 30 = .ok (.lload_n 1, 1) := by decide +kernel
theorem dX0_append_31 : decode cX0_append 31 = .ok (.lastore, 1) := by decide +kernel
theorem dX0_append_32 : decode cX0_append 32 = .ok (.aload_n 0, 1) := by decide +kernel
theorem dX0_append_33 : decode cX0_append 33 = .ok (.getfield 19, 3) := by decide +kernel
theorem dX0_append_36 : decode cX0_append 36 = .ok (.aload_n 0, 1) := by decide +kernel
theorem dX0_append_37 : decode cX0_append 37 = .ok (.getfield 31, 3) := by decide +kernel
theorem dX0_append_40 : decode cX0_append 40 = .ok (.iload_n 3, 1) := by decide +kernel
theorem dX0_append_41 : decode cX0_append 41 = .ok (.iastore, 1) := by decide +kernel
theorem dX0_append_42 : decode cX0_append 42 = .ok (.aload_n 0, 1) := by decide +kernel
theorem dX0_append_43 : decode cX0_append 43 = .ok (.getfield 22, 3) := by decide +kernel
theorem dX0_append_46 : decode cX0_append 46 = .ok (.aload_n 0, 1) := by decide +kernel
theorem dX0_append_47 : decode cX0_append 47 = .ok (.getfield 31, 3) := by decide +kernel
theorem dX0_append_50 : decode cX0_append 50 = .ok (.iload 4, 2) := by decide +kernel
theorem dX0_append_52 : decode cX0_append 52 = .ok (.iastore, 1) := by decide +kernel
theorem dX0_append_53 : decode cX0_append 53 = .ok (.aload_n 0, 1) := by decide +kernel
theorem dX0_append_54 : decode cX0_append 54 = .ok (.getfield 25, 3) := by decide +kernel
theorem dX0_append_57 : decode cX0_append 57 = .ok (.aload_n 0, 1) := by decide +kernel
theorem dX0_append_58 : decode cX0_append 58 = .ok (.getfield 31, 3) := by decide +kernel
theorem dX0_append_61 : decode cX0_append 61 = .ok (.iconst 0, 1) := by decide +kernel
theorem dX0_append_62 : decode cX0_append 62 = .ok (.iastore, 1) := by decide +kernel
theorem dX0_append_63 : decode cX0_append 63 = .ok (.aload_n 0, 1) := by decide +kernel
theorem dX0_append_64 : decode cX0_append 64 = .ok (.getfield 28, 3) := by decide +kernel
theorem dX0_append_67 : decode cX0_append 67 = .ok (.aload_n 0, 1) := by decide +kernel
theorem dX0_append_68 : decode cX0_append 68 = .ok (.getfield 31, 3) := by decide +kernel
theorem dX0_append_71 : decode cX0_append 71 = .ok (.iconst (-1), 1) := by decide +kernel
theorem dX0_append_72 : decode cX0_append 72 = .ok (.iastore, 1) := by decide +kernel
theorem dX0_append_73 : decode cX0_append 73 = .ok (.aload_n 0, 1) := by decide +kernel
theorem dX0_append_74 : decode cX0_append 74 = .ok (.dup, 1) := by decide +kernel
theorem dX0_append_75 : decode cX0_append 75 = .ok (.getfield 31, 3) := by decide +kernel
theorem dX0_append_78 : decode cX0_append 78 = .ok (.iconst 1, 1) := by decide +kernel
theorem dX0_append_79 : decode cX0_append 79 = .ok (.iadd, 1) := by decide +kernel
theorem dX0_append_80 : decode cX0_append 80 = .ok (.putfield 31, 3) := by decide +kernel
theorem dX0_append_83 : decode cX0_append 83 = .ok (.aload_n 0, 1) := by decide +kernel
theorem dX0_append_84 : decode cX0_append 84 = .ok (.dup, 1) := by decide +kernel
theorem dX0_append_85 : decode cX0_append 85 = .ok (.getfield 35, 3) := by decide +kernel
theorem dX0_append_88 : decode cX0_append 88 = .ok (.iconst 1, 1) := by decide +kernel
theorem dX0_append_89 : decode cX0_append 89 = .ok (.iadd, 1) := by decide +kernel
theorem dX0_append_90 : decode cX0_append 90 = .ok (.putfield 35, 3) := by decide +kernel
theorem dX0_append_93 : decode cX0_append 93 = .ok (.aload_n 0, 1) := by decide +kernel
theorem dX0_append_94 : decode cX0_append 94 = .ok (.getfield 35, 3) := by decide +kernel
theorem dX0_append_97 : decode cX0_append 97 = .ok (.iconst 1, 1) := by decide +kernel
theorem dX0_append_98 : decode cX0_append 98 = .ok (.isub, 1) := by decide +kernel
theorem dX0_append_99 : decode cX0_append 99 = .ok (.ireturn, 1) := by decide +kernel
set_option maxRecDepth 20000 in
theorem ggX0_takeOut_X0_moveInto : GoodIn wsX0_takeOut wsX0_moveInto := goodIn_r _ [6, 7, 8, 9, 10, 11, 12, 13, 14, 15, 16, 17, 18, 19, 20, 21, 22] (by decide +kernel) (by decide +kernel)
set_option maxRecDepth 20000 in
theorem gX0_takeOut_X0_moveInto : GoodIn wsX0_takeOut (wsV RX0 44 RX0 yX0_moveInto wsX0_moveInto) := goodIn_app (goodIn_of _ (by decide +kernel)) ggX0_takeOut_X0_moveInto
theorem dX0_takeOut_0 : decode cX0_takeOut 0 = .ok (.iload_n 1, 1) := by decide +kernel
theorem dX0_takeOut_1 : decode cX0_takeOut 1 = .ok (.iconst 1, 1) := by decide +kernel
theorem dX0_takeOut_2 : decode cX0_takeOut 2 = .ok (.iadd, 1) := by decide +kernel
theorem dX0_takeOut_3 : decode cX0_takeOut 3 = .ok (.istore_n 2, 1) := by decide +kernel
theorem dX0_takeOut_4 : decode cX0_takeOut 4 = .ok (.iload_n 2, 1) := by decide +kernel
theorem dX0_takeOut_5 : decode cX0_takeOut 5 = .ok (.aload_n 0, 1) := by decide +kernel
theorem dX0_takeOut_6 : decode cX0_takeOut 6 = .ok (.getfield 31, 3) := by decide +kernel
theorem dX0_takeOut_9 : decode cX0_takeOut 9 = .ok (.if_icmp .ge 18, 3) := by decide +kernel
theorem dX0_takeOut_12 : decode cX0_takeOut 12 = .ok (.aload_n 0, 1) := by decide +kernel
theorem dX0_takeOut_13 : decode cX0_takeOut 13 = .ok (.iload_n 2, 1) := by decide +kernel
theorem dX0_takeOut_14 : decode cX0_takeOut 14 = .ok (.iconst 1, 1) := by decide +kernel
theorem dX0_takeOut_15 : decode cX0_takeOut 15 = .ok (.isub, 1) := by decide +kernel
theorem dX0_takeOut_16 : decode cX0_takeOut 16 = .ok (.aload_n 0, 1) := by decide +kernel
theorem dX0_takeOut_17 : decode cX0_takeOut 17 = .ok (.iload_n 2, 1) := by decide +kernel
theorem dX0_takeOut_18 : decode cX0_takeOut 18 = .ok (.invokevirtual 44, 3) := by decide +kernel
theorem dX0_takeOut_21 : decode cX0_takeOut 21 = .ok (.iinc 2 1, 3) := by decide +kernel
theorem dX0_takeOut_24 : decode cX0_takeOut 24 = .ok (.goto (-20), 3) := by decide +kernel
theorem dX0_takeOut_27 : decode cX0_takeOut 27 = .ok (.aload_n 0, 1) := by decide +kernel
theorem dX0_takeOut_28 : decode cX0_takeOut 28 = .ok (.dup, 1) := by decide +kernel
theorem dX0_takeOut_29 : decode cX0_takeOut 29 = .ok (.getfield 31, 3) := by decide +kernel
theorem dX0_takeOut_32 : decode cX0_takeOut 32 = .ok (.iconst 1, 1) := by decide +kernel
theorem dX0_takeOut_33 : decode cX0_takeOut 33 = .ok (.isub, 1) := by decide +kernel
theorem dX0_takeOut_34 : decode cX0_takeOut 34 = .ok (.putfield 31, 3) := by decide +kernel
theorem dX0_takeOut_37 : decode cX0_takeOut 37 = .ok (.return_, 1) := by decide +kernel
theorem dX0_halveScores_0 : decode cX0_halveScores 0 = .ok (.iconst 0, 1) := by decide +kernel
theorem dX0_halveScores_1 : decode cX0_halveScores 1 = .ok (.istore_n 1, 1) := by decide +kernel
theorem dX0_halveScores_2 : decode cX0_halveScores 2 = .ok (.iload_n 1, 1) := by decide +kernel
theorem dX0_halveScores_3 : decode cX0_halveScores 3 = .ok (.aload_n 0, 1) := by decide +kernel
theorem dX0_halveScores_4 : decode cX0_halveScores 4 = .ok (.getfield 31, 3) := by decide +kernel
theorem dX0_halveScores_7 : decode cX0_halveScores 7 = .ok (.if_icmp .ge 23, 3) := by decide +kernel
theorem dX0_halveScores_10 : decode cX0_halveScores 10 = .ok (.aload_n 0, 1) := by decide +kernel
theorem dX0_halveScores_11 : decode cX0_halveScores 11 = .ok (.getfield 19, 3) := by decide +kernel
theorem dX0_halveScores_14 : decode cX0_halveScores 14 = .ok (.iload_n 1, 1) := by decide +kernel
theorem dX0_halveScores_15 : decode cX0_halveScores 15 = .ok (.aload_n 0, 1) := by decide +kernel
theorem dX0_halveScores_16 : decode cX0_halveScores 16 = .ok (.getfield 19, 3) := by decide +kernel
theorem dX0_halveScores_19 : decode cX0_halveScores 19 = .ok (.iload_n 1, 1) := by decide +kernel
theorem dX0_halveScores_20 : decode cX0_halveScores 20 = .ok (.iaload, 1) := by decide +kernel
theorem dX0_halveScores_21 : decode cX0_halveScores 21 = .ok (.iconst 2, 1) := by decide +kernel
theorem dX0_halveScores_22 : decode cX0_halveScores 22 = .ok (.idiv, 1) := by decide +kernel
theorem dX0_halveScores_23 : decode cX0_halveScores 23 = .ok (.iastore, 1) := by decide +kernel
theorem dX0_halveScores_24 : decode cX0_halveScores 24 = .ok (.iinc 1 1, 3) := by decide +kernel
theorem dX0_halveScores_27 : decode cX0_halveScores 27 = .ok (.goto (-25), 3) := by decide +kernel
theorem dX0_halveScores_30 : decode cX0_halveScores 30 = .ok (.return_, 1) := by decide +kernel
theorem dX0_isBefore_0 : decode cX0_isBefore 0 = .ok (.aload_n 0, 1) := by decide +kernel
theorem dX0_isBefore_1 : decode cX0_isBefore 1 = .ok (.getfield 19, 3) := by decide +kernel
theorem dX0_isBefore_4 : decode cX0_isBefore 4 = .ok (.iload_n 1, 1) := by decide +kernel
theorem dX0_isBefore_5 : decode cX0_isBefore 5 = .ok (.iaload, 1) := by decide +kernel
theorem dX0_isBefore_6 : decode cX0_isBefore 6 = .ok (.aload_n 0, 1) := by decide +kernel
theorem dX0_isBefore_7 : decode cX0_isBefore 7 = .ok (.getfield 19, 3) := by decide +kernel
theorem dX0_isBefore_10 : decode cX0_isBefore 10 = .ok (.iload_n 2, 1) := by decide +kernel
theorem dX0_isBefore_11 : decode cX0_isBefore 11 = .ok (.iaload, 1) := by decide +kernel
theorem dX0_isBefore_12 : decode cX0_isBefore 12 = .ok (.if_icmp .gt 23, 3) := by decide +kernel
theorem dX0_isBefore_15 : decode cX0_isBefore 15 = .ok (.aload_n 0, 1) := by decide +kernel
theorem dX0_isBefore_16 : decode cX0_isBefore 16 = .ok (.getfield 19, 3) := by decide +kernel
theorem dX0_isBefore_19 : decode cX0_isBefore 19 = .ok (.iload_n 1, 1) := by decide +kernel
theorem dX0_isBefore_20 : decode cX0_isBefore 20 = .ok (.iaload, 1) := by decide +kernel
theorem dX0_isBefore_21 : decode cX0_isBefore 21 = .ok (.aload_n 0, 1) := by decide +kernel
theorem dX0_isBefore_22 : decode cX0_isBefore 22 = .ok (.getfield 19, 3) := by decide +kernel
theorem dX0_isBefore_25 : decode cX0_isBefore 25 = .ok (.iload_n 2, 1) := by decide +kernel
theorem dX0_isBefore_26 : decode cX0_isBefore 26 = .ok (.iaload, 1) := by decide +kernel
theorem dX0_isBefore_27 : decode cX0_isBefore 27 = .ok (.if_icmp .ne 12, 3) := by decide +kernel
theorem dX0_isBefore_30 : decode cX0_isBefore 30 = .ok (.iload_n 1, 1) := by decide +kernel
theorem dX0_isBefore_31 : decode cX0_isBefore 31 = .ok (.iload_n 2, 1) := by decide +kernel
theorem dX0_isBefore_32 : decode cX0_isBefore 32 = .ok (.if_icmp .ge 7, 3) := by decide +kernel
theorem dX0_isBefore_35 : decode cX0_isBefore 35 = .ok (.iconst 1, 1) := by decide +kernel
theorem dX0_isBefore_36 : decode cX0_isBefore 36 = .ok (.goto 4, 3) := by decide +kernel
theorem dX0_isBefore_39 : decode cX0_isBefore 39 = .ok (.iconst 0, 1) := by decide +kernel
theorem dX0_isBefore_40 : decode cX0_isBefore 40 = .ok (.ireturn, 1) := by decide +kernel
set_option maxRecDepth 20000 in
theorem ggX0_detail_X6_lengthOf : GoodIn wsX0_detail wsX6_lengthOf := goodIn_r _ [9, 10, 11, 12, 13, 14, 15, 16, 17, 18] (by decide +kernel) (by decide +kernel)
set_option maxRecDepth 20000 in
theorem gX0_detail_X6_lengthOf : GoodIn wsX0_detail (va_wsS RX0 52 yX6_lengthOf wsX6_lengthOf) := goodIn_app (goodIn_of _ (by decide +kernel)) ggX0_detail_X6_lengthOf
theorem dX0_detail_0 : decode cX0_detail 0 = .ok (.iload_n 2, 1) := by decide +kernel
theorem dX0_detail_1 : decode cX0_detail 1 = .ok (.tableswitch 62 0 3 #[31, 38, 45, 55], 31) := by decide +kernel
theorem dX0_detail_32 : decode cX0_detail 32 = .ok (.aload_n 0, 1) := by decide +kernel
theorem dX0_detail_33 : decode cX0_detail 33 = .ok (.getfield 19, 3) := by decide +kernel
theorem dX0_detail_36 : decode cX0_detail 36 = .ok (.iload_n 1, 1) := by decide +kernel
theorem dX0_detail_37 : decode cX0_detail 37 = .ok (.iaload, 1) := by decide +kernel
theorem dX0_detail_38 : decode cX0_detail 38 = .ok (.ireturn, 1) := by decide +kernel
theorem dX0_detail_39 : decode cX0_detail 39 = .ok (.aload_n 0, 1) := by decide +kernel
theorem dX0_detail_40 : decode cX0_detail 40 = .ok (.getfield 22, 3) := by decide +kernel
theorem dX0_detail_43 : decode cX0_detail 43 = .ok (.iload_n 1, 1) := by decide +kernel
theorem dX0_detail_44 : decode cX0_detail 44 = .ok (.iaload, 1) := by decide +kernel
theorem dX0_detail_45 : decode cX0_detail 45 = .ok (.ireturn, 1) := by decide +kernel
theorem dX0_detail_46 : decode cX0_detail 46 = .ok (.aload_n 0, 1) := by decide +kernel
theorem dX0_detail_47 : decode cX0_detail 47 = .ok (.getfield 15, 3) := by decide +kernel
theorem dX0_detail_50 : decode cX0_detail 50 = .ok (.iload_n 1, 1) := by decide +kernel
theorem dX0_detail_51 : decode cX0_detail 51 = .ok (.laload, 1) := by decide +kernel
theorem dX0_detail_52 : decode cX0_detail 52 = .ok (.invokestatic 52, 3) := by decide +kernel
theorem dX0_detail_55 : decode cX0_detail 55 = .ok (.ireturn, 1) := by decide +kernel
theorem dX0_detail_56 : decode cX0_detail 56 = .ok (.aload_n 0, 1) := by decide +kernel
theorem dX0_detail_57 : decode cX0_detail 57 = .ok (.getfield 25, 3) := by decide +kernel
theorem dX0_detail_60 : decode cX0_detail 60 = .ok (.iload_n 1, 1) := by decide +kernel
theorem dX0_detail_61 : decode cX0_detail 61 = .ok (.iaload, 1) := by decide +kernel
theorem dX0_detail_62 : decode cX0_detail 62 = .ok (.ireturn, 1) := by decide +kernel
theorem dX0_detail_63 : decode cX0_detail 63 = .ok (.aload_n 0, 1) := by decide +kernel
theorem dX0_detail_64 : decode cX0_detail 64 = .ok (.getfield 28, 3) := by decide +kernel
theorem dX0_detail_67 : decode cX0_detail 67 = .ok (.iload_n 1, 1) := by decide +kernel
theorem dX0_detail_68 : decode cX0_detail 68 = .ok (.iaload, 1) := by decide +kernel
theorem dX0_detail_69 : decode cX0_detail 69 = .ok (.ireturn, 1) := by decide +kernel
theorem dX1_next_0 : decode cX1_next 0 = .ok (.lload_n 0, 1) := by decide +kernel
theorem dX1_next_1 : decode cX1_next 1 = .ok (.ldc2_w 7, 3) := by decide +kernel
theorem dX1_next_4 : decode cX1_next 4 = .ok (.lmul, 1) := by decide +kernel
theorem dX1_next_5 : decode cX1_next 5 = .ok (.ldc2_w 9, 3) := by decide +kernel
theorem dX1_next_8 : decode cX1_next 8 = .ok (.ladd, 1) := by decide +kernel
theorem dX1_next_9 : decode cX1_next 9 = .ok (.ldc2_w 11, 3) := by decide +kernel
theorem dX1_next_12 : decode cX1_next 12 = .ok (.lrem, 1) := by decide +kernel
theorem dX1_next_13 : decode cX1_next 13 = .ok (.lreturn, 1) := by decide +kernel
theorem dX1_upper_0 : decode cX1_upper 0 = .ok (.iload_n 2, 1) := by decide +kernel
theorem dX1_upper_1 : decode cX1_upper 1 = .ok (.ifCond .le 15, 3) := by decide +kernel
theorem dX1_upper_4 : decode cX1_upper 4 = .ok (.lload_n 0, 1) := by decide +kernel
theorem dX1_upper_5 : decode cX1_upper 5 = .ok (.ldc2_w 13, 3) := by decide +kernel
theorem dX1_upper_8 : decode cX1_upper 8 = .ok (.ldiv, 1) := by decide +kernel
theorem dX1_upper_9 : decode cX1_upper 9 = .ok (.iload_n 2, 1) := by decide +kernel
theorem dX1_upper_10 : decode cX1_upper 10 = .ok (.i2l, 1) := by decide +kernel
theorem dX1_upper_11 : decode cX1_upper 11 = .ok (.lrem, 1) := by decide +kernel
theorem dX1_upper_12 : decode cX1_upper 12 = .ok (.l2i, 1) := by decide +kernel
theorem dX1_upper_13 : decode cX1_upper 13 = .ok (.goto 4, 3) := by decide +kernel
theorem dX1_upper_16 : decode cX1_upper 16 = .ok (.iconst 0, 1) := by decide +kernel
theorem dX1_upper_17 : decode cX1_upper 17 = .ok (.ireturn, 1) := by decide +kernel
theorem dX1_middle_0 : decode cX1_middle 0 = .ok (.iload_n 2, 1) := by decide +kernel
theorem dX1_middle_1 : decode cX1_middle 1 = .ok (.ifCond .le 15, 3) := by decide +kernel
theorem dX1_middle_4 : decode cX1_middle 4 = .ok (.lload_n 0, 1) := by decide +kernel
theorem dX1_middle_5 : decode cX1_middle 5 = .ok (.ldc2_w 15, 3) := by decide +kernel
theorem dX1_middle_8 : decode cX1_middle 8 = .ok (.ldiv, 1) := by decide +kernel
theorem dX1_middle_9 : decode cX1_middle 9 = .ok (.iload_n 2, 1) := by decide +kernel
theorem dX1_middle_10 : decode cX1_middle 10 = .ok (.i2l, 1) := by decide +kernel
theorem dX1_middle_11 : decode cX1_middle 11 = .ok (.lrem, 1) := by decide +kernel
theorem dX1_middle_12 : decode cX1_middle 12 = .ok (.l2i, 1) := by decide +kernel
theorem dX1_middle_13 : decode cX1_middle 13 = .ok (.goto 4, 3) := by decide +kernel
theorem dX1_middle_16 : decode cX1_middle 16 = .ok (.iconst 0, 1) := by decide +kernel
theorem dX1_middle_17 : decode cX1_middle 17 = .ok (.ireturn, 1) := by decide +kernel
theorem dX2_init_0 : decode cX2_init 0 = .ok (.aload_n 0, 1) := by decide +kernel
theorem dX2_init_1 : decode cX2_init 1 = .ok (.invokespecial 3, 3) := by decide +kernel
theorem dX2_init_4 : decode cX2_init 4 = .ok (.aload_n 0, 1) := by decide +kernel
theorem dX2_init_5 : decode cX2_init 5 = .ok (.bipush 40, 2) := by decide +kernel
theorem dX2_init_7 : decode cX2_init 7 = .ok (.newarray .int, 2) := by decide +kernel
theorem dX2_init_9 : decode cX2_init 9 = .ok (.putfield 9, 3) := by decide +kernel
theorem dX2_init_12 : decode cX2_init 12 = .ok (.aload_n 0, 1) := by decide +kernel
theorem dX2_init_13 : decode cX2_init 13 = .ok (.bipush 40, 2) := by decide +kernel
theorem dX2_init_15 : decode cX2_init 15 = .ok (.newarray .int, 2) := by decide +kernel
theorem dX2_init_17 : decode cX2_init 17 = .ok (.putfield 15, 3) := by decide +kernel
theorem dX2_init_20 : decode cX2_init 20 = .ok (.aload_n 0, 1) := by decide +kernel
theorem dX2_init_21 : decode cX2_init 21 = .ok (.iconst 0, 1) := by decide +kernel
theorem dX2_init_22 : decode cX2_init 22 = .ok (.putfield 18, 3) := by decide +kernel
theorem dX2_init_25 : decode cX2_init 25 = .ok (.return_, 1) := by decide +kernel
theorem dX2_makeEmpty_0 : decode cX2_makeEmpty 0 = .ok (.aload_n 0, 1) := by decide +kernel
theorem dX2_makeEmpty_1 : decode cX2_makeEmpty 1 = .ok (.iconst 0, 1) := by decide +kernel
theorem dX2_makeEmpty_2 : decode cX2_makeEmpty 2 = .ok (.putfield 18, 3) := by decide +kernel
theorem dX2_makeEmpty_5 : decode cX2_makeEmpty 5 = .ok (.return_, 1) := by decide +kernel
theorem dX2_insert_0 : decode cX2_insert 0 = .ok (.aload_n 0, 1) := by decide +kernel
theorem dX2_insert_1 : decode cX2_insert 1 = .ok (.getfield 18, 3) := by decide +kernel
theorem dX2_insert_4 : decode cX2_insert 4 = .ok (.bipush 40, 2) := by decide +kernel
theorem dX2_insert_6 : decode cX2_insert 6 = .ok (.if_icmp .lt 4, 3) := by decide +kernel
theorem dX2_insert_9 : decode cX2_insert 9 = .ok (.return_, 1) := by decide +kernel
theorem dX2_insert_10 : decode cX2_insert 10 = .ok (.aload_n 0, 1) := by decide +kernel
theorem dX2_insert_11 : decode cX2_insert 11 = .ok (.getfield 18, 3) := by decide +kernel
theorem dX2_insert_14 : decode cX2_insert 14 = .ok (.istore_n 3, 1) := by decide +kernel
theorem dX2_insert_15 : decode cX2_insert 15 = .ok (.iload_n 3, 1) := by decide +kernel
theorem dX2_insert_16 : decode cX2_insert 16 = .ok (.ifCond .le 49, 3) := by decide +kernel
theorem dX2_insert_19 : decode cX2_insert 19 = .ok (.aload_n 0, 1) := by decide +kernel
theorem dX2_insert_20 : decode cX2_insert 20 = .ok (.getfield 15, 3) := by decide +kernel
theorem dX2_insert_23 : decode cX2_insert 23 = .ok (.iload_n 3, 1) := by decide +kernel
theorem dX2_insert_24 : decode cX2_insert 24 = .ok (.iconst 1, 1) := by decide +kernel
theorem dX2_insert_25 : decode cX2_insert 25 = .ok (.isub, 1) := by decide +kernel
theorem dX2_insert_26 : decode cX2_insert 26 = .ok (.iaload, 1) := by decide +kernel
theorem dX2_insert_27 : decode cX2_insert 27 = .ok (.iload_n 2, 1) := by decide +kernel
theorem dX2_insert_28 : decode cX2_insert 28 = .ok (.if_icmp .ge 37, 3) := by decide +kernel
theorem dX2_insert_31 : decode cX2_insert 31 = .ok (.aload_n 0, 1) := by decide +kernel
theorem dX2_insert_32 : decode cX2_insert 32 = .ok (.getfield 9, 3) := by decide +kernel
theorem dX2_insert_35 : decode cX2_insert 35 = .ok (.iload_n 3, 1) := by decide +kernel
theorem dX2_insert_36 : decode cX2_insert 36 = .ok (.aload_n 0, 1) := by decide +kernel
theorem dX2_insert_37 : decode cX2_insert 37 = .ok (.getfield 9, 3) := by decide +kernel
theorem dX2_insert_40 : decode cX2_insert 40 = .ok (.iload_n 3, 1) := by decide +kernel
theorem dX2_insert_41 : decode cX2_insert 41 = .ok (.iconst 1, 1) := by decide +kernel
theorem dX2_insert_42 : decode cX2_insert 42 = .ok (.isub, 1) := by decide +kernel
theorem dX2_insert_43 : decode cX2_insert 43 = .ok (.iaload, 1) := by decide +kernel
theorem dX2_insert_44 : decode cX2_insert 44 = .ok (.iastore, 1) := by decide +kernel
theorem dX2_insert_45 : decode cX2_insert 45 = .ok (.aload_n 0, 1) := by decide +kernel
theorem dX2_insert_46 : decode cX2_insert 46 = .ok (.getfield 15, 3) := by decide +kernel
theorem dX2_insert_49 : decode cX2_insert 49 = .ok (.iload_n 3, 1) := by decide +kernel
theorem dX2_insert_50 : decode cX2_insert 50 = .ok (.aload_n 0, 1) := by decide +kernel
theorem dX2_insert_51 : decode cX2_insert 51 = .ok (.getfield 15, 3) := by decide +kernel
theorem dX2_insert_54 : decode cX2_insert 54 = .ok (.iload_n 3, 1) := by decide +kernel
theorem dX2_insert_55 : decode cX2_insert 55 = .ok (.iconst 1, 1) := by decide +kernel
theorem dX2_insert_56 : decode cX2_insert 56 = .ok (.isub, 1) := by decide +kernel
theorem dX2_insert_57 : decode cX2_insert 57 = .ok (.iaload, 1) := by decide +kernel
theorem dX2_insert_58 : decode cX2_insert 58 = .ok (.iastore, 1) := by decide +kernel
theorem dX2_insert_59 : decode cX2_insert 59 = .ok (.iinc 3 (-1), 3) := by decide +kernel
theorem dX2_insert_62 : decode cX2_insert 62 = .ok (.goto (-47), 3) := by decide +kernel
theorem dX2_insert_65 : decode cX2_insert 65 = .ok (.aload_n 0, 1) := by decide +kernel
theorem dX2_insert_66 : decode cX2_insert 66 = .ok (.getfield 9, 3) := by decide +kernel
theorem dX2_insert_69 : decode cX2_insert 69 = .ok (.iload_n 3, 1) := by decide +kernel
theorem dX2_insert_70 : decode cX2_insert 70 = .ok (.iload_n 1, 1) := by decide +kernel
theorem dX2_insert_71 : decode cX2_insert 71 = .ok (.iastore, 1) := by decide +kernel
theorem dX2_insert_72 : decode cX2_insert 72 = .ok (.aload_n 0, 1) := by decide +kernel
theorem dX2_insert_73 : decode cX2_insert 73 = .ok (.getfield 15, 3) := by decide +kernel
theorem dX2_insert_76 : decode cX2_insert 76 = .ok (.iload_n 3, 1) := by decide +kernel
theorem dX2_insert_77 : decode cX2_insert 77 = .ok (.iload_n 2, 1) := by decide +kernel
theorem dX2_insert_78 : decode cX2_insert 78 = .ok (.iastore, 1) := by decide +kernel
theorem dX2_insert_79 : decode cX2_insert 79 = .ok (.aload_n 0, 1) := by decide +kernel
theorem dX2_insert_80 : decode cX2_insert 80 = .ok (.dup, 1) := by decide +kernel
theorem dX2_insert_81 : decode cX2_insert 81 = .ok (.getfield 18, 3) := by decide +kernel
theorem dX2_insert_84 : decode cX2_insert 84 = .ok (.iconst 1, 1) := by decide +kernel
theorem dX2_insert_85 : decode cX2_insert 85 = .ok (.iadd, 1) := by decide +kernel
theorem dX2_insert_86 : decode cX2_insert 86 = .ok (.putfield 18, 3) := by decide +kernel
theorem dX2_insert_89 : decode cX2_insert 89 = .ok (.return_, 1) := by decide +kernel
theorem dX2_keepFirstOfEachMeaning_0 : decode cX2_keepFirstOfEachMeaning 0 = .ok (.iconst 0, 1) := by decide +kernel
theorem dX2_keepFirstOfEachMeaning_1 : decode cX2_keepFirstOfEachMeaning 1 = .ok (.istore_n 2, 1) := by decide +kernel
theorem dX2_keepFirstOfEachMeaning_2 : decode cX2_keepFirstOfEachMeaning 2 = .ok (.iconst 0, 1) := by decide +kernel
theorem dX2_keepFirstOfEachMeaning_3 : decode cX2_keepFirstOfEachMeaning 3 = .ok (.istore_n 3, 1) := by decide +kernel
theorem dX2_keepFirstOfEachMeaning_4 : decode cX2_keepFirstOfEachMeaning 4 = .ok (.iconst 0, 1) := by decide +kernel
theorem dX2_keepFirstOfEachMeaning_5 : decode cX2_keepFirstOfEachMeaning 5 = .ok (.istore 4, 2) := by decide +kernel
theorem dX2_keepFirstOfEachMeaning_7 : decode cX2_keepFirstOfEachMeaning 7 = .ok (.iload 4, 2) := by decide +kernel
theorem dX2_keepFirstOfEachMeaning_9 : decode cX2_keepFirstOfEachMeaning 9 = .ok (.aload_n 0, 1) := by decide +kernel
theorem dX2_keepFirstOfEachMeaning_10 : decode cX2_keepFirstOfEachMeaning 10 = .ok (.getfield 18, 3) := by decide +kernel
theorem dX2_keepFirstOfEachMeaning_13 : decode cX2_keepFirstOfEachMeaning 13 = .ok (.if_icmp .ge 60, 3) := by decide +kernel
theorem dX2_keepFirstOfEachMeaning_16 : decode cX2_keepFirstOfEachMeaning 16 = .ok (.aload_n 1, 1) := by decide +kernel
theorem dX2_keepFirstOfEachMeaning_17 : decode cX2_keepFirstOfEachMeaning 17 = .ok (.getfield 22, 3) := by decide +kernel
theorem dX2_keepFirstOfEachMeaning_20 : decode cX2_keepFirstOfEachMeaning 20 = .ok (.aload_n 0, 1) := by decide +kernel
theorem dX2_keepFirstOfEachMeaning_21 : decode cX2_keepFirstOfEachMeaning 21 = .ok (.getfield 9, 3) := by decide +kernel
theorem dX2_keepFirstOfEachMeaning_24 : decode cX2_keepFirstOfEachMeaning 24 = .ok (.iload 4, 2) := by decide +kernel
theorem dX2_keepFirstOfEachMeaning_26 : decode cX2_keepFirstOfEachMeaning 26 = .ok (.iaload, 1) := by decide +kernel
theorem dX2_keepFirstOfEachMeaning_27 : decode cX2_keepFirstOfEachMeaning 27 = .ok (.iaload, 1) := by decide +kernel
theorem dX2_keepFirstOfEachMeaning_28 : decode cX2_keepFirstOfEachMeaning 28 = .ok (.istore 5, 2) := by decide +kernel
theorem dX2_keepFirstOfEachMeaning_30 : decode cX2_keepFirstOfEachMeaning 30 = .ok (.iload 5, 2) := by decide +kernel
theorem dX2_keepFirstOfEachMeaning_32 : decode cX2_keepFirstOfEachMeaning 32 = .ok (.ifCond .eq 12, 3) := by decide +kernel
theorem dX2_keepFirstOfEachMeaning_35 : decode cX2_keepFirstOfEachMeaning 35 = .ok (.iload_n 2, 1) := by decide +kernel
theorem dX2_keepFirstOfEachMeaning_36 : decode cX2_keepFirstOfEachMeaning 36 = .ok (.iload 5, 2) := by decide +kernel
theorem dX2_keepFirstOfEachMeaning_38 : decode cX2_keepFirstOfEachMeaning 38 = .ok (.ishr, 1) := by decide +kernel
theorem dX2_keepFirstOfEachMeaning_39 : decode cX2_keepFirstOfEachMeaning 39 = .ok (.iconst 1, 1) := by decide +kernel
theorem dX2_keepFirstOfEachMeaning_40 : decode cX2_keepFirstOfEachMeaning 40 = .ok (.iand, 1) := by decide +kernel
theorem dX2_keepFirstOfEachMeaning_41 : decode cX2_keepFirstOfEachMeaning 41 = .ok (.ifCond .ne 26, 3) := by decide +kernel
theorem dX2_keepFirstOfEachMeaning_44 : decode cX2_keepFirstOfEachMeaning 44 = .ok (.iload_n 2, 1) := by decide +kernel
theorem dX2_keepFirstOfEachMeaning_45 : decode cX2_keepFirstOfEachMeaning 45 = .ok (.iconst 1, 1) := by decide +kernel
theorem dX2_keepFirstOfEachMeaning_46 : decode cX2_keepFirstOfEachMeaning 46 = .ok (.iload 5, 2) := by decide +kernel
theorem dX2_keepFirstOfEachMeaning_48 : decode cX2_keepFirstOfEachMeaning 48 = .ok (.ishl, 1) := by decide +kernel
theorem dX2_keepFirstOfEachMeaning_49 : decode cX2_keepFirstOfEachMeaning 49 = .ok (.ior, 1) := by decide +kernel
theorem dX2_keepFirstOfEachMeaning_50 : decode cX2_keepFirstOfEachMeaning 50 = .ok (.istore_n 2, 1) := by decide +kernel
theorem dX2_keepFirstOfEachMeaning_51 : decode cX2_keepFirstOfEachMeaning 51 = .ok (.aload_n 0, 1) := by decide +kernel
theorem dX2_keepFirstOfEachMeaning_52 : decode cX2_keepFirstOfEachMeaning 52 = .ok (.getfield 9, 3) := by decide +kernel
theorem dX2_keepFirstOfEachMeaning_55 : decode cX2_keepFirstOfEachMeaning 55 = .ok (.iload_n 3, 1) := by decide +kernel
theorem dX2_keepFirstOfEachMeaning_56 : decode cX2_keepFirstOfEachMeaning 56 = .ok (.aload_n 0, 1) := by decide +kernel
theorem dX2_keepFirstOfEachMeaning_57 : decode cX2_keepFirstOfEachMeaning 57 = .ok (.getfield 9, 3) := by decide +kernel
theorem dX2_keepFirstOfEachMeaning_60 : decode cX2_keepFirstOfEachMeaning 60 = .ok (.iload 4, 2) := by decide +kernel
theorem dX2_keepFirstOfEachMeaning_62 : decode cX2_keepFirstOfEachMeaning 62 = .ok (.iaload, 1) := by decide +kernel
theorem dX2_keepFirstOfEachMeaning_63 : decode cX2_keepFirstOfEachMeaning 63 = .ok (.iastore, 1) := by decide +kernel
theorem dX2_keepFirstOfEachMeaning_64 : decode cX2_keepFirstOfEachMeaning 64 = .ok (.iinc 3 1, 3) := by decide +kernel
theorem dX2_keepFirstOfEachMeaning_67 : decode cX2_keepFirstOfEachMeaning 67 = .ok (.iinc 4 1, 3) := by decide +kernel
theorem dX2_keepFirstOfEachMeaning_70 : decode cX2_keepFirstOfEachMeaning 70 = .ok (.goto (-63), 3) := by decide +kernel
theorem dX2_keepFirstOfEachMeaning_73 : decode cX2_keepFirstOfEachMeaning 73 = .ok (.aload_n 0, 1) := by decide +kernel
theorem dX2_keepFirstOfEachMeaning_74 : decode cX2_keepFirstOfEachMeaning 74 = .ok (.iload_n 3, 1) := by decide +kernel
theorem dX2_keepFirstOfEachMeaning_75 : decode cX2_keepFirstOfEachMeaning 75 = .ok (.putfield 18, 3) := by decide +kernel
theorem dX2_keepFirstOfEachMeaning_78 : decode cX2_keepFirstOfEachMeaning 78 = .ok (.return_, 1) := by decide +kernel
theorem dX3_init_0 : decode cX3_init 0 = .ok (.aload_n 0, 1) := by decide +kernel
theorem dX3_init_1 : decode cX3_init 1 = .ok (.invokespecial 3, 3) := by decide +kernel
theorem dX3_init_4 : decode cX3_init 4 = .ok (.aload_n 0, 1) := by decide +kernel
theorem dX3_init_5 : decode cX3_init 5 = .ok (.bipush 120, 2) := by decide +kernel
theorem dX3_init_7 : decode cX3_init 7 = .ok (.newarray .int, 2) := by decide +kernel
theorem dX3_init_9 : decode cX3_init 9 = .ok (.putfield 9, 3) := by decide +kernel
theorem dX3_init_12 : decode cX3_init 12 = .ok (.aload_n 0, 1) := by decide +kernel
theorem dX3_init_13 : decode cX3_init 13 = .ok (.iconst 0, 1) := by decide +kernel
theorem dX3_init_14 : decode cX3_init 14 = .ok (.putfield 15, 3) := by decide +kernel
theorem dX3_init_17 : decode cX3_init 17 = .ok (.aload_n 0, 1) := by decide +kernel
theorem dX3_init_18 : decode cX3_init 18 = .ok (.bipush 24, 2) := by decide +kernel
theorem dX3_init_20 : decode cX3_init 20 = .ok (.newarray .int, 2) := by decide +kernel
theorem dX3_init_22 : decode cX3_init 22 = .ok (.putfield 19, 3) := by decide +kernel
theorem dX3_init_25 : decode cX3_init 25 = .ok (.aload_n 0, 1) := by decide +kernel
theorem dX3_init_26 : decode cX3_init 26 = .ok (.bipush 24, 2) := by decide +kernel
theorem dX3_init_28 : decode cX3_init 28 = .ok (.newarray .long, 2) := by decide +kernel
theorem dX3_init_30 : decode cX3_init 30 = .ok (.putfield 22, 3) := by decide +kernel
theorem dX3_init_33 : decode cX3_init 33 = .ok (.aload_n 0, 1) := by decide +kernel
theorem dX3_init_34 : decode cX3_init 34 = .ok (.bipush 24, 2) := by decide +kernel
theorem dX3_init_36 : decode cX3_init 36 = .ok (.newarray .int, 2) := by decide +kernel
theorem dX3_init_38 : decode cX3_init 38 = .ok (.putfield 26, 3) := by decide +kernel
theorem dX3_init_41 : decode cX3_init 41 = .ok (.aload_n 0, 1) := by decide +kernel
theorem dX3_init_42 : decode cX3_init 42 = .ok (.bipush 24, 2) := by decide +kernel
theorem dX3_init_44 : decode cX3_init 44 = .ok (.newarray .int, 2) := by decide +kernel
theorem dX3_init_46 : decode cX3_init 46 = .ok (.putfield 29, 3) := by decide +kernel
theorem dX3_init_49 : decode cX3_init 49 = .ok (.aload_n 0, 1) := by decide +kernel
theorem dX3_init_50 : decode cX3_init 50 = .ok (.iconst 0, 1) := by decide +kernel
theorem dX3_init_51 : decode cX3_init 51 = .ok (.putfield 32, 3) := by decide +kernel
theorem dX3_init_54 : decode cX3_init 54 = .ok (.aload_n 0, 1) := by decide +kernel
theorem dX3_init_55 : decode cX3_init 55 = .ok (.iconst 0, 1) := by decide +kernel
theorem dX3_init_56 : decode cX3_init 56 = .ok (.putfield 35, 3) := by decide +kernel
theorem dX3_init_59 : decode cX3_init 59 = .ok (.aload_n 0, 1) := by decide +kernel
theorem dX3_init_60 : decode cX3_init 60 = .ok (.iconst (-1), 1) := by decide +kernel
theorem dX3_init_61 : decode cX3_init 61 = .ok (.putfield 38, 3) := by decide +kernel
theorem dX3_init_64 : decode cX3_init 64 = .ok (.return_, 1) := by decide +kernel
theorem dX3_makeEmpty_0 : decode cX3_makeEmpty 0 = .ok (.aload_n 0, 1) := by decide +kernel
theorem dX3_makeEmpty_1 : decode cX3_makeEmpty 1 = .ok (.iconst 0, 1) := by decide +kernel
theorem dX3_makeEmpty_2 : decode cX3_makeEmpty 2 = .ok (.putfield 15, 3) := by decide +kernel
theorem dX3_makeEmpty_5 : decode cX3_makeEmpty 5 = .ok (.return_, 1) := by decide +kernel
theorem dX3_append_0 : decode cX3_append 0 = .ok (.aload_n 0, 1) := by decide +kernel
theorem dX3_append_1 : decode cX3_append 1 = .ok (.getfield 15, 3) := by decide +kernel
theorem dX3_append_4 : decode cX3_append 4 = .ok (.bipush 120, 2) := by decide +kernel
theorem dX3_append_6 : decode cX3_append 6 = .ok (.if_icmp .lt 5, 3) := by decide +kernel
theorem dX3_append_9 : decode cX3_append 9 = .ok (.iconst 0, 1) := by decide +kernel
theorem dX3_append_10 : decode cX3_append 10 = .ok (.ireturn, 1) := by decide +kernel
theorem dX3_append_11 : decode cX3_append 11 = .ok (.aload_n 0, 1) := by decide +kernel
theorem dX3_append_12 : decode cX3_append 12 = .ok (.getfield 9, 3) := by decide +kernel
theorem dX3_append_15 : decode cX3_append 15 = .ok (.aload_n 0, 1) := by decide +kernel
theorem dX3_append_16 : decode cX3_append 16 = .ok (.getfield 15, 3) := by decide +kernel
theorem dX3_append_19 : decode cX3_append 19 = .ok (.iload_n 1, 1) := by decide +kernel
theorem dX3_append_20 : decode cX3_append 20 = .ok (.iastore, 1) := by decide +kernel
theorem dX3_append_21 : decode cX3_append 21 = .ok (.aload_n 0, 1) := by decide +kernel
theorem dX3_append_22 : decode cX3_append 22 = .ok (.dup, 1) := by decide +kernel
theorem dX3_append_23 : decode cX3_append 23 = .ok (.getfield 15, 3) := by decide +kernel
theorem dX3_append_26 : decode cX3_append 26 = .ok (.iconst 1, 1) := by decide +kernel
theorem dX3_append_27 : decode cX3_append 27 = .ok (.iadd, 1) := by decide +kernel
theorem dX3_append_28 : decode cX3_append 28 = .ok (.putfield 15, 3) := by decide +kernel
theorem dX3_append_31 : decode cX3_append 31 = .ok (.iconst 1, 1) := by decide +kernel
theorem dX3_append_32 : decode cX3_append 32 = .ok (.ireturn, 1) := by decide +kernel
set_option maxRecDepth 20000 in
theorem ggX3_readAll_X3_readOrder : GoodIn wsX3_readAll wsX3_readOrder := goodIn_r _ [9, 10, 11, 12, 13, 14, 15, 16, 8, 17, 2, 18, 19, 20, 21, 22, 23, 24, 25, 4, 26, 27, 28, 29, 30, 31, 32, 33, 34, 35, 36, 37, 38, 39, 40, 41, 42, 43, 44, 45, 46, 47, 48, 49, 50, 51, 52, 53, 54, 55, 56, 57, 58, 59, 60, 61, 62, 63, 64, 65, 66, 67, 68, 69, 70, 71, 72, 73, 74, 75, 76, 77, 78, 79, 80, 81, 82, 83, 84, 85, 86, 87, 88, 89, 90, 91, 92, 93, 3, 94, 95, 96, 97, 98, 99, 100, 101, 102, 103, 104, 105, 106, 107, 108, 109, 110, 111, 112, 113, 114, 115, 116, 117, 118, 119, 120, 121, 122, 123, 124, 125, 126, 127, 128, 129, 130, 131, 132, 133, 134, 135, 136, 137, 138, 139] (by decide +kernel) (by decide +kernel)
set_option maxRecDepth 20000 in
theorem gX3_readAll_X3_readOrder : GoodIn wsX3_readAll (wsV RX3 41 RX3 yX3_readOrder wsX3_readOrder) := goodIn_app (goodIn_of _ (by decide +kernel)) ggX3_readAll_X3_readOrder
set_option maxRecDepth 20000 in
theorem ggX3_readAll_X3_skipBlanks : GoodIn wsX3_readAll wsX3_skipBlanks := goodIn_r _ [25, 2, 4, 26, 131, 132, 133, 134, 135, 136, 137, 138, 139] (by decide +kernel) (by decide +kernel)
set_option maxRecDepth 20000 in
theorem gX3_readAll_X3_skipBlanks : GoodIn wsX3_readAll (wsV RX3 45 RX3 yX3_skipBlanks wsX3_skipBlanks) := goodIn_app (goodIn_of _ (by decide +kernel)) ggX3_readAll_X3_skipBlanks
theorem dX3_readAll_0 : decode cX3_readAll 0 = .ok (.aload_n 0, 1) := by decide +kernel
theorem dX3_readAll_1 : decode cX3_readAll 1 = .ok (.iconst 0, 1) := by decide +kernel
theorem dX3_readAll_2 : decode cX3_readAll 2 = .ok (.putfield 32, 3) := by decide +kernel
theorem dX3_readAll_5 : decode cX3_readAll 5 = .ok (.aload_n 0, 1) := by decide +kernel
theorem dX3_readAll_6 : decode cX3_readAll 6 = .ok (.iconst 0, 1) := by decide +kernel
theorem dX3_readAll_7 : decode cX3_readAll 7 = .ok (.putfield 35, 3) := by decide +kernel
theorem dX3_readAll_10 : decode cX3_readAll 10 = .ok (.aload_n 0, 1) := by decide +kernel
theorem dX3_readAll_11 : decode cX3_readAll 11 = .ok (.iconst (-1), 1) := by decide +kernel
theorem dX3_readAll_12 : decode cX3_readAll 12 = .ok (.putfield 38, 3) := by decide +kernel
theorem dX3_readAll_15 : decode cX3_readAll 15 = .ok (.iconst 1, 1) := by decide +kernel
theorem dX3_readAll_16 : decode cX3_readAll 16 = .ok (.istore_n 1, 1) := by decide +kernel
theorem dX3_readAll_17 : decode cX3_readAll 17 = .ok (.iconst 0, 1) := by decide +kernel
theorem dX3_readAll_18 : decode cX3_readAll 18 = .ok (.istore_n 2, 1) := by decide +kernel
theorem dX3_readAll_19 : decode cX3_readAll 19 = .ok (.iload_n 2, 1) := by decide +kernel
theorem dX3_readAll_20 : decode cX3_readAll 20 = .ok (.bipush 24, 2) := by decide +kernel
theorem dX3_readAll_22 : decode cX3_readAll 22 = .ok (.if_icmp .ge 54, 3) := by decide +kernel
theorem dX3_readAll_25 : decode cX3_readAll 25 = .ok (.iload_n 1, 1) := by decide +kernel
theorem dX3_readAll_26 : decode cX3_readAll 26 = .ok (.ifCond .eq 50, 3) := by decide +kernel
theorem dX3_readAll_29 : decode cX3_readAll 29 = .ok (.aload_n 0, 1) := by decide +kernel
theorem dX3_readAll_30 : decode cX3_readAll 30 = .ok (.getfield 38, 3) := by decide +kernel
theorem dX3_readAll_33 : decode cX3_readAll 33 = .ok (.iconst (-1), 1) := by decide +kernel
theorem dX3_readAll_34 : decode cX3_readAll 34 = .ok (.if_icmp .ne 42, 3) := by decide +kernel
theorem dX3_readAll_37 : decode cX3_readAll 37 = .ok (.aload_n 0, 1) := by decide +kernel
theorem dX3_readAll_38 : decode cX3_readAll 38 = .ok (.iload_n 2, 1) := by decide +kernel
theorem dX3_readAll_39 : decode cX3_readAll 39 = .ok (.invokevirtual 41, 3) := by decide +kernel
theorem dX3_readAll_42 : decode cX3_readAll 42 = .ok (.aload_n 0, 1) := by decide +kernel
theorem dX3_readAll_43 : decode cX3_readAll 43 = .ok (.iload_n 2, 1) := by decide +kernel
theorem dX3_readAll_44 : decode cX3_readAll 44 = .ok (.iconst 1, 1) := by decide +kernel
theorem dX3_readAll_45 : decode cX3_readAll 45 = .ok (.iadd, 1) := by decide +kernel
theorem dX3_readAll_46 : decode cX3_readAll 46 = .ok (.putfield 32, 3) := by decide +kernel
theorem dX3_readAll_49 : decode cX3_readAll 49 = .ok (.aload_n 0, 1) := by decide +kernel
theorem dX3_readAll_50 : decode cX3_readAll 50 = .ok (.invokevirtual 45, 3) := by decide +kernel
theorem dX3_readAll_53 : decode cX3_readAll 53 = .ok (.aload_n 0, 1) := by decide +kernel
theorem dX3_readAll_54 : decode cX3_readAll 54 = .ok (.getfield 35, 3) := by decide +kernel
theorem dX3_readAll_57 : decode cX3_readAll 57 = .ok (.aload_n 0, 1) := by decide +kernel
theorem dX3_readAll_58 : decode cX3_readAll 58 = .ok (.getfield 15, 3) := by decide +kernel
theorem dX3_readAll_61 : decode cX3_readAll 61 = .ok (.if_icmp .ge 7, 3) := by decide +kernel
theorem dX3_readAll_64 : decode cX3_readAll 64 = .ok (.iconst 1, 1) := by decide +kernel
theorem dX3_readAll_65 : decode cX3_readAll 65 = .ok (.goto 4, 3) := by decide +kernel
theorem dX3_readAll_68 : decode cX3_readAll 68 = .ok (.iconst 0, 1) := by decide +kernel
theorem dX3_readAll_69 : decode cX3_readAll 69 = .ok (.istore_n 1, 1) := by decide +kernel
theorem dX3_readAll_70 : decode cX3_readAll 70 = .ok (.iinc 2 1, 3) := by decide +kernel
theorem dX3_readAll_73 : decode cX3_readAll 73 = .ok (.goto (-54), 3) := by decide +kernel
theorem dX3_readAll_76 : decode cX3_readAll 76 = .ok (.aload_n 0, 1) := by decide +kernel
theorem dX3_readAll_77 : decode cX3_readAll 77 = .ok (.getfield 38, 3) := by decide +kernel
theorem dX3_readAll_80 : decode cX3_readAll 80 = .ok (.ireturn, 1) := by decide +kernel
set_option maxRecDepth 20000 in
theorem ggX3_readOrder_X3_readVerb : GoodIn wsX3_readOrder wsX3_readVerb := goodIn_r _ [9, 10, 11, 12, 13, 8, 14, 15, 16, 17, 18, 19, 20, 21, 22, 23, 24, 25, 26, 27, 28, 29, 30, 31, 32, 33, 34, 35, 36, 37, 38, 39, 40, 41, 42, 43, 44, 45, 46, 47, 48, 49, 50, 51, 52, 53, 54, 55, 56, 57, 58, 59, 60, 61, 62, 63, 64, 65, 66, 67, 68, 69, 70, 71, 72, 73, 74, 75, 76, 77, 78, 79, 80, 81, 82, 83, 84, 85, 86, 87, 88, 126, 127, 128, 129, 130, 131, 132, 133, 134] (by decide +kernel) (by decide +kernel)
set_option maxRecDepth 20000 in
theorem gX3_readOrder_X3_readVerb : GoodIn wsX3_readOrder (wsV RX3 48 RX3 yX3_readVerb wsX3_readVerb) := goodIn_app (goodIn_of _ (by decide +kernel)) ggX3_readOrder_X3_readVerb
set_option maxRecDepth 20000 in
theorem ggX3_readOrder_X3_hasWord : GoodIn wsX3_readOrder wsX3_hasWord := goodIn_r _ [91] (by decide +kernel) (by decide +kernel)
set_option maxRecDepth 20000 in
theorem gX3_readOrder_X3_hasWord : GoodIn wsX3_readOrder (va_wsS RX3 52 yX3_hasWord wsX3_hasWord) := goodIn_app (goodIn_of _ (by decide +kernel)) ggX3_readOrder_X3_hasWord
set_option maxRecDepth 20000 in
theorem ggX3_readOrder_X3_readWord : GoodIn wsX3_readOrder wsX3_readWord := goodIn_r _ [95, 20, 10, 11, 12, 13, 8, 14, 15, 16, 17, 18, 19, 21, 22, 23, 24, 25, 26, 27, 84, 85, 86, 87, 88, 96, 97, 98, 99, 100, 101, 102, 103, 104, 105, 106, 107, 108, 109, 110, 111, 126, 127, 128, 129, 130, 131, 132, 133, 134] (by decide +kernel) (by decide +kernel)
set_option maxRecDepth 20000 in
theorem gX3_readOrder_X3_readWord : GoodIn wsX3_readOrder (wsV RX3 56 RX3 yX3_readWord wsX3_readWord) := goodIn_app (goodIn_of _ (by decide +kernel)) ggX3_readOrder_X3_readWord
set_option maxRecDepth 20000 in
theorem ggX3_readOrder_X3_hasNumber : GoodIn wsX3_readOrder wsX3_hasNumber := goodIn_r _ [114] (by decide +kernel) (by decide +kernel)
set_option maxRecDepth 20000 in
theorem gX3_readOrder_X3_hasNumber : GoodIn wsX3_readOrder (va_wsS RX3 60 yX3_hasNumber wsX3_hasNumber) := goodIn_app (goodIn_of _ (by decide +kernel)) ggX3_readOrder_X3_hasNumber
set_option maxRecDepth 20000 in
theorem ggX3_readOrder_X3_mostNumber : GoodIn wsX3_readOrder wsX3_mostNumber := goodIn_r _ [117] (by decide +kernel) (by decide +kernel)
set_option maxRecDepth 20000 in
theorem gX3_readOrder_X3_mostNumber : GoodIn wsX3_readOrder (va_wsS RX3 63 yX3_mostNumber wsX3_mostNumber) := goodIn_app (goodIn_of _ (by decide +kernel)) ggX3_readOrder_X3_mostNumber
set_option maxRecDepth 20000 in
theorem ggX3_readOrder_X3_readNumber : GoodIn wsX3_readOrder wsX3_readNumber := goodIn_r _ [121, 20, 10, 11, 12, 13, 8, 14, 15, 16, 17, 18, 19, 21, 22, 23, 24, 25, 26, 27, 84, 85, 86, 87, 88, 126, 127, 128, 129, 130, 131, 132, 133, 134] (by decide +kernel) (by decide +kernel)
set_option maxRecDepth 20000 in
theorem gX3_readOrder_X3_readNumber : GoodIn wsX3_readOrder (wsV RX3 67 RX3 yX3_readNumber wsX3_readNumber) := goodIn_app (goodIn_of _ (by decide +kernel)) ggX3_readOrder_X3_readNumber
set_option maxRecDepth 20000 in
theorem ggX3_readOrder_X3_readEnd : GoodIn wsX3_readOrder wsX3_readEnd := goodIn_r _ [125, 19, 20, 10, 11, 12, 13, 8, 14, 15, 16, 17, 18, 84, 85, 86, 87, 88, 126, 127, 128, 129, 130, 131, 132, 133, 134] (by decide +kernel) (by decide +kernel)
set_option maxRecDepth 20000 in
theorem gX3_readOrder_X3_readEnd : GoodIn wsX3_readOrder (wsV RX3 70 RX3 yX3_readEnd wsX3_readEnd) := goodIn_app (goodIn_of _ (by decide +kernel)) ggX3_readOrder_X3_readEnd
theorem dX3_readOrder_0 : decode cX3_readOrder 0 = .ok (.aload_n 0, 1) := by decide +kernel
theorem dX3_readOrder_1 : decode cX3_readOrder 1 = .ok (.invokevirtual 48, 3) := by decide +kernel
theorem dX3_readOrder_4 : decode cX3_readOrder 4 = .ok (.istore_n 2, 1) := by decide +kernel
theorem dX3_readOrder_5 : decode cX3_readOrder 5 = .ok (.aload_n 0, 1) := by decide +kernel
theorem dX3_readOrder_6 : decode cX3_readOrder 6 = .ok (.getfield 19, 3) := by decide +kernel
theorem dX3_readOrder_9 : decode cX3_readOrder 9 = .ok (.iload_n 1, 1) := by decide +kernel
theorem dX3_readOrder_10 : decode cX3_readOrder 10 = .ok (.iload_n 2, 1) := by decide +kernel
theorem dX3_readOrder_11 : decode cX3_readOrder 11 = .ok (.iastore, 1) := by decide +kernel
theorem dX3_readOrder_12 : decode cX3_readOrder 12 = .ok (.aload_n 0, 1) := by decide +kernel
theorem dX3_readOrder_13 : decode cX3_readOrder 13 = .ok (.getfield 22, 3) := by decide +kernel
theorem dX3_readOrder_16 : decode cX3_readOrder 16 = .ok (.iload_n 1, 1) := by decide +kernel
theorem dX3_readOrder_17 : decode cX3_readOrder 17 = .ok (.iload_n 2, 1) := by decide +kernel
theorem dX3_readOrder_18 : decode cX3_readOrder 18 = .ok (.invokestatic 52, 3) := by decide +kernel
theorem dX3_readOrder_21 : decode cX3_readOrder 21 = .ok (.ifCond .eq 10, 3) := by decide +kernel
theorem dX3_readOrder_24 : decode cX3_readOrder 24 = .ok (.aload_n 0, 1) := by decide +kernel
theorem dX3_readOrder_25 : decode cX3_readOrder 25 = .ok (.invokevirtual 56, 3) := by decide +kernel
theorem dX3_readOrder_28 : decode cX3_readOrder 28 = .ok (.goto 4, 3) := by decide +kernel
theorem dX3_readOrder_31 : decode cX3_readOrder 31 = .ok (.lconst 0, 1) := by decide +kernel
theorem dX3_readOrder_32 : decode cX3_readOrder 32 = .ok (.lastore, 1) := by decide +kernel
theorem dX3_readOrder_33 : decode cX3_readOrder 33 = .ok (.aload_n 0, 1) := by decide +kernel
theorem dX3_readOrder_34 : decode cX3_readOrder 34 = .ok (.getfield 26, 3) := by decide +kernel
theorem dX3_readOrder_37 : decode cX3_readOrder 37 = .ok (.iload_n 1, 1) := by decide +kernel
theorem dX3_readOrder_38 : decode cX3_readOrder 38 = .ok (.iload_n 2, 1) := by decide +kernel
theorem dX3_readOrder_39 : decode cX3_readOrder 39 = .ok (.invokestatic 60, 3) := by decide +kernel
theorem dX3_readOrder_42 : decode cX3_readOrder 42 = .ok (.ifCond .eq 14, 3) := by decide +kernel
theorem dX3_readOrder_45 : decode cX3_readOrder 45 = .ok (.aload_n 0, 1) := by decide +kernel
theorem dX3_readOrder_46 : decode cX3_readOrder 46 = .ok (.iload_n 2, 1) := by decide +kernel
theorem dX3_readOrder_47 : decode cX3_readOrder 47 = .ok (.invokestatic 63, 3) := by decide +kernel
theorem dX3_readOrder_50 : decode cX3_readOrder 50 = .ok (.invokevirtual 67, 3) := by decide +kernel
theorem dX3_readOrder_53 : decode cX3_readOrder 53 = .ok (.goto 4, 3) := by decide +kernel
theorem dX3_readOrder_56 : decode cX3_readOrder 56 = .ok (.iconst 0, 1) := by decide +kernel
theorem dX3_readOrder_57 : decode cX3_readOrder 57 = .ok (.iastore, 1) := by decide +kernel
theorem dX3_readOrder_58 : decode cX3_readOrder 58 = .ok (.aload_n 0, 1) := by decide +kernel
theorem dX3_readOrder_59 : decode cX3_readOrder 59 = .ok (.getfield 29, 3) := by decide +kernel
theorem dX3_readOrder_62 : decode cX3_readOrder 62 = .ok (.iload_n 1, 1) := by decide +kernel
theorem dX3_readOrder_63 : decode cX3_readOrder 63 = .ok (.iload_n 2, 1) := by decide +kernel
theorem dX3_readOrder_64 : decode cX3_readOrder 64 = .ok (.ifCond .ne 12, 3) := by decide +kernel
theorem dX3_readOrder_67 : decode cX3_readOrder 67 = .ok (.aload_n 0, 1) := by decide +kernel
theorem dX3_readOrder_68 : decode cX3_readOrder 68 = .ok (.bipush 9, 2) := by decide +kernel
theorem dX3_readOrder_70 : decode cX3_readOrder 70 = .ok (.invokevirtual 67, 3) := by decide +kernel
theorem dX3_readOrder_73 : decode cX3_readOrder 73 = .ok (.goto 4, 3) := by decide +kernel
theorem dX3_readOrder_76 : decode cX3_readOrder 76 = .ok (.iconst 0, 1) := by decide +kernel
theorem dX3_readOrder_77 : decode cX3_readOrder 77 = .ok (.iastore, 1) := by decide +kernel
theorem dX3_readOrder_78 : decode cX3_readOrder 78 = .ok (.aload_n 0, 1) := by decide +kernel
theorem dX3_readOrder_79 : decode cX3_readOrder 79 = .ok (.invokevirtual 70, 3) := by decide +kernel
theorem dX3_readOrder_82 : decode cX3_readOrder 82 = .ok (.return_, 1) := by decide +kernel
theorem dX3_hasWord_0 : decode cX3_hasWord 0 = .ok (.iload_n 0, 1) := by decide +kernel
theorem dX3_hasWord_1 : decode cX3_hasWord 1 = .ok (.ifCond .eq 18, 3) := by decide +kernel
theorem dX3_hasWord_4 : decode cX3_hasWord 4 = .ok (.iload_n 0, 1) := by decide +kernel
theorem dX3_hasWord_5 : decode cX3_hasWord 5 = .ok (.iconst 1, 1) := by decide +kernel
theorem dX3_hasWord_6 : decode cX3_hasWord 6 = .ok (.if_icmp .eq 13, 3) := by decide +kernel
theorem dX3_hasWord_9 : decode cX3_hasWord 9 = .ok (.iload_n 0, 1) := by decide +kernel
theorem dX3_hasWord_10 : decode cX3_hasWord 10 = .ok (.iconst 2, 1) := by decide +kernel
theorem dX3_hasWord_11 : decode cX3_hasWord 11 = .ok (.if_icmp .eq 8, 3) := by decide +kernel
theorem dX3_hasWord_14 : decode cX3_hasWord 14 = .ok (.iload_n 0, 1) := by decide +kernel
theorem dX3_hasWord_15 : decode cX3_hasWord 15 = .ok (.iconst 3, 1) := by decide +kernel
theorem dX3_hasWord_16 : decode cX3_hasWord 16 = .ok (.if_icmp .ne 7, 3) := by decide +kernel
theorem dX3_hasWord_19 : decode cX3_hasWord 19 = .ok (.iconst 1, 1) := by decide +kernel
theorem dX3_hasWord_20 : decode cX3_hasWord 20 = .ok (.goto 4, 3) := by decide +kernel
theorem dX3_hasWord_23 : decode cX3_hasWord 23 = .ok (.iconst 0, 1) := by decide +kernel
theorem dX3_hasWord_24 : decode cX3_hasWord 24 = .ok (.ireturn, 1) := by decide +kernel
theorem dX3_hasNumber_0 : decode cX3_hasNumber 0 = .ok (.iload_n 0, 1) := by decide +kernel
theorem dX3_hasNumber_1 : decode cX3_hasNumber 1 = .ok (.ifCond .eq 18, 3) := by decide +kernel
theorem dX3_hasNumber_4 : decode cX3_hasNumber 4 = .ok (.iload_n 0, 1) := by decide +kernel
theorem dX3_hasNumber_5 : decode cX3_hasNumber 5 = .ok (.iconst 2, 1) := by decide +kernel
theorem dX3_hasNumber_6 : decode cX3_hasNumber 6 = .ok (.if_icmp .eq 13, 3) := by decide +kernel
theorem dX3_hasNumber_9 : decode cX3_hasNumber 9 = .ok (.iload_n 0, 1) := by decide +kernel
theorem dX3_hasNumber_10 : decode cX3_hasNumber 10 = .ok (.iconst 4, 1) := by decide +kernel
theorem dX3_hasNumber_11 : decode cX3_hasNumber 11 = .ok (.if_icmp .eq 8, 3) := by decide +kernel
theorem dX3_hasNumber_14 : decode cX3_hasNumber 14 = .ok (.iload_n 0, 1) := by decide +kernel
theorem dX3_hasNumber_15 : decode cX3_hasNumber 15 = .ok (.iconst 5, 1) := by decide +kernel
theorem dX3_hasNumber_16 : decode cX3_hasNumber 16 = .ok (.if_icmp .ne 7, 3) := by decide +kernel
theorem dX3_hasNumber_19 : decode cX3_hasNumber 19 = .ok (.iconst 1, 1) := by decide +kernel
theorem dX3_hasNumber_20 : decode cX3_hasNumber 20 = .ok (.goto 4, 3) := by decide +kernel
theorem dX3_hasNumber_23 : decode cX3_hasNumber 23 = .ok (.iconst 0, 1) := by decide +kernel
theorem dX3_hasNumber_24 : decode cX3_hasNumber 24 = .ok (.ireturn, 1) := by decide +kernel
theorem dX3_mostNumber_0 : decode cX3_mostNumber 0 = .ok (.iload_n 0, 1) := by decide +kernel
theorem dX3_mostNumber_1 : decode cX3_mostNumber 1 = .ok (.iconst 4, 1) := by decide +kernel
theorem dX3_mostNumber_2 : decode cX3_mostNumber 2 = .ok (.if_icmp .ne 5, 3) := by decide +kernel
theorem dX3_mostNumber_5 : decode cX3_mostNumber 5 = .ok (.iconst 4, 1) := by decide +kernel
theorem dX3_mostNumber_6 : decode cX3_mostNumber 6 = .ok (.ireturn, 1) := by decide +kernel
theorem dX3_mostNumber_7 : decode cX3_mostNumber 7 = .ok (.iload_n 0, 1) := by decide +kernel
theorem dX3_mostNumber_8 : decode cX3_mostNumber 8 = .ok (.iconst 5, 1) := by decide +kernel
theorem dX3_mostNumber_9 : decode cX3_mostNumber 9 = .ok (.if_icmp .ne 9, 3) := by decide +kernel
theorem dX3_mostNumber_12 : decode cX3_mostNumber 12 = .ok (.sipush 1000, 3) := by decide +kernel
theorem dX3_mostNumber_15 : decode cX3_mostNumber 15 = .ok (.goto 6, 3) := by decide +kernel
theorem dX3_mostNumber_18 : decode cX3_mostNumber 18 = .ok (.sipush 1000, 3) := by decide +kernel
theorem dX3_mostNumber_21 : decode cX3_mostNumber 21 = .ok (.ireturn, 1) := by decide +kernel
theorem dX3_nameOf_0 : decode cX3_nameOf 0 = .ok (.iload_n 0, 1) := by decide +kernel
theorem dX3_nameOf_1 : decode cX3_nameOf 1 = .ok (.tableswitch 57 0 5 #[39, 42, 45, 48, 51, 54], 39) := by decide +kernel
theorem dX3_nameOf_40 : decode cX3_nameOf 40 = .ok (.ldc 73, 2) := by decide +kernel
theorem dX3_nameOf_42 : decode cX3_nameOf 42 = .ok (.areturn, 1) := by decide +kernel
theorem dX3_nameOf_43 : decode cX3_nameOf 43 = .ok (.ldc 75, 2) := by decide +kernel
theorem dX3_nameOf_45 : decode cX3_nameOf 45 = .ok (.areturn, 1) := by decide +kernel
theorem dX3_nameOf_46 : decode cX3_nameOf 46 = .ok (.ldc 77, 2) := by decide +kernel
theorem dX3_nameOf_48 : decode cX3_nameOf 48 = .ok (.areturn, 1) := by decide +kernel
theorem dX3_nameOf_49 : decode cX3_nameOf 49 = .ok (.ldc 79, 2) := by decide +kernel
theorem dX3_nameOf_51 : decode cX3_nameOf 51 = .ok (.areturn, 1) := by decide +kernel
theorem dX3_nameOf_52 : decode cX3_nameOf 52 = .ok (.ldc 81, 2) := by decide +kernel
theorem dX3_nameOf_54 : decode cX3_nameOf 54 = .ok (.areturn, 1) := by decide +kernel
theorem dX3_nameOf_55 : decode cX3_nameOf 55 = .ok (.ldc 83, 2) := by decide +kernel
theorem dX3_nameOf_57 : decode cX3_nameOf 57 = .ok (.areturn, 1) := by decide +kernel
theorem dX3_nameOf_58 : decode cX3_nameOf 58 = .ok (.ldc 85, 2) := by decide +kernel
theorem dX3_nameOf_60 : decode cX3_nameOf 60 = .ok (.areturn, 1) := by decide +kernel
set_option maxRecDepth 20000 in
theorem ggX3_readVerb_X3_startOfNext : GoodIn wsX3_readVerb wsX3_startOfNext := goodIn_r _ [6, 1, 7, 8, 9, 5, 10, 11, 12, 81, 82, 83, 84, 85, 86, 87, 88, 89] (by decide +kernel) (by decide +kernel)
set_option maxRecDepth 20000 in
theorem gX3_readVerb_X3_startOfNext : GoodIn wsX3_readVerb (wsV RX3 87 RX3 yX3_startOfNext wsX3_startOfNext) := goodIn_app (goodIn_of _ (by decide +kernel)) ggX3_readVerb_X3_startOfNext
set_option maxRecDepth 20000 in
theorem ggX3_readVerb_X3_endOfRun : GoodIn wsX3_readVerb wsX3_endOfRun := goodIn_r _ [16, 11, 12, 17, 18, 19, 81, 82, 83, 84, 85, 86, 87, 88, 89] (by decide +kernel) (by decide +kernel)
set_option maxRecDepth 20000 in
theorem gX3_readVerb_X3_endOfRun : GoodIn wsX3_readVerb (wsV RX3 90 RX3 yX3_endOfRun wsX3_endOfRun) := goodIn_app (goodIn_of _ (by decide +kernel)) ggX3_readVerb_X3_endOfRun
set_option maxRecDepth 20000 in
theorem ggX3_readVerb_X3_nameOf : GoodIn wsX3_readVerb wsX3_nameOf := goodIn_r _ [22] (by decide +kernel) (by decide +kernel)
set_option maxRecDepth 20000 in
theorem gX3_readVerb_X3_nameOf : GoodIn wsX3_readVerb (va_wsS RX3 94 yX3_nameOf wsX3_nameOf) := goodIn_app (goodIn_of _ (by decide +kernel)) ggX3_readVerb_X3_nameOf
set_option maxRecDepth 20000 in
theorem ggX3_readVerb_X3_isName : GoodIn wsX3_readVerb wsX3_isName := goodIn_r _ [26, 12, 27, 28, 29, 30, 31, 32, 33, 34, 35, 36, 37, 38, 39, 40, 41, 42, 43, 44, 45, 46, 47, 48, 49, 50, 51, 52, 53, 54, 55, 56, 57, 58, 59, 60, 61, 62, 63, 64, 65, 66, 67, 68, 69, 70, 71, 72, 73, 74, 75, 81, 82, 83, 84, 85, 86, 87, 88, 89] (by decide +kernel) (by decide +kernel)
set_option maxRecDepth 20000 in
theorem gX3_readVerb_X3_isName : GoodIn wsX3_readVerb (wsV RX3 98 RX3 yX3_isName wsX3_isName) := goodIn_app (goodIn_of _ (by decide +kernel)) ggX3_readVerb_X3_isName
set_option maxRecDepth 20000 in
theorem ggX3_readVerb_X3_fail : GoodIn wsX3_readVerb wsX3_fail := goodIn_r _ [79, 80, 81, 82, 83, 84, 85, 86, 87, 88, 89] (by decide +kernel) (by decide +kernel)
set_option maxRecDepth 20000 in
theorem gX3_readVerb_X3_fail : GoodIn wsX3_readVerb (wsV RX3 102 RX3 yX3_fail wsX3_fail) := goodIn_app (goodIn_of _ (by decide +kernel)) ggX3_readVerb_X3_fail
theorem dX3_readVerb_0 : decode cX3_readVerb 0 = .ok (.aload_n 0, 1) := by decide +kernel
theorem dX3_readVerb_1 : decode cX3_readVerb 1 = .ok (.invokevirtual 87, 3) := by decide +kernel
theorem dX3_readVerb_4 : decode cX3_readVerb 4 = .ok (.istore_n 1, 1) := by decide +kernel
theorem dX3_readVerb_5 : decode cX3_readVerb 5 = .ok (.aload_n 0, 1) := by decide +kernel
theorem dX3_readVerb_6 : decode cX3_readVerb 6 = .ok (.iload_n 1, 1) := by decide +kernel
theorem dX3_readVerb_7 : decode cX3_readVerb 7 = .ok (.bipush 97, 2) := by decide +kernel
theorem dX3_readVerb_9 : decode cX3_readVerb 9 = .ok (.bipush 122, 2) := by decide +kernel
theorem dX3_readVerb_11 : decode cX3_readVerb 11 = .ok (.invokevirtual 90, 3) := by decide +kernel
theorem dX3_readVerb_14 : decode cX3_readVerb 14 = .ok (.istore_n 2, 1) := by decide +kernel
theorem dX3_readVerb_15 : decode cX3_readVerb 15 = .ok (.iconst 0, 1) := by decide +kernel
theorem dX3_readVerb_16 : decode cX3_readVerb 16 = .ok (.istore_n 3, 1) := by decide +kernel
theorem dX3_readVerb_17 : decode cX3_readVerb 17 = .ok (.iload_n 3, 1) := by decide +kernel
theorem dX3_readVerb_18 : decode cX3_readVerb 18 = .ok (.bipush 7, 2) := by decide +kernel
theorem dX3_readVerb_20 : decode cX3_readVerb 20 = .ok (.if_icmp .ge 29, 3) := by decide +kernel
theorem dX3_readVerb_23 : decode cX3_readVerb 23 = .ok (.aload_n 0, 1) := by decide +kernel
theorem dX3_readVerb_24 : decode cX3_readVerb 24 = .ok (.iload_n 3, 1) := by decide +kernel
theorem dX3_readVerb_25 : decode cX3_readVerb 25 = .ok (.invokestatic 94, 3) := by decide +kernel
theorem dX3_readVerb_28 : decode cX3_readVerb 28 = .ok (.iload_n 1, 1) := by decide +kernel
theorem dX3_readVerb_29 : decode cX3_readVerb 29 = .ok (.iload_n 2, 1) := by decide +kernel
theorem dX3_readVerb_30 : decode cX3_readVerb 30 = .ok (.invokevirtual 98, 3) := by decide +kernel
theorem dX3_readVerb_33 : decode cX3_readVerb 33 = .ok (.ifCond .eq 10, 3) := by decide +kernel
theorem dX3_readVerb_36 : decode cX3_readVerb 36 = .ok (.aload_n 0, 1) := by decide +kernel
theorem dX3_readVerb_37 : decode cX3_readVerb 37 = .ok (.iload_n 2, 1) := by decide +kernel
theorem dX3_readVerb_38 : decode cX3_readVerb 38 = .ok (.putfield 35, 3) := by decide +kernel
theorem dX3_readVerb_41 : decode cX3_readVerb 41 = .ok (.iload_n 3, 1) := by decide +kernel
theorem dX3_readVerb_42 : decode cX3_readVerb 42 = .ok (.ireturn, 1) := by decide +kernel
theorem dX3_readVerb_43 : decode cX3_readVerb 43 = .ok (.iinc 3 1, 3) := by decide +kernel
theorem dX3_readVerb_46 : decode cX3_readVerb 46 = .ok (.goto (-29), 3) := by decide +kernel
theorem dX3_readVerb_49 : decode cX3_readVerb 49 = .ok (.aload_n 0, 1) := by decide +kernel
theorem dX3_readVerb_50 : decode cX3_readVerb 50 = .ok (.iload_n 1, 1) := by decide +kernel
theorem dX3_readVerb_51 : decode cX3_readVerb 51 = .ok (.invokevirtual 102, 3) := by decide +kernel
theorem dX3_readVerb_54 : decode cX3_readVerb 54 = .ok (.iconst (-1), 1) := by decide +kernel
theorem dX3_readVerb_55 : decode cX3_readVerb 55 = .ok (.ireturn, 1) := by decide +kernel
set_option maxRecDepth 20000 in
theorem ggX3_isName_J0_length_8abf5 : GoodIn wsX3_isName wsJ0_length_8abf5 := goodIn_r _ [6, 7, 8, 9, 10, 5, 11, 12, 13] (by decide +kernel) (by decide +kernel)
set_option maxRecDepth 20000 in
theorem gX3_isName_J0_length_8abf5 : GoodIn wsX3_isName (wsV RX3 105 RJ0 yJ0_length_8abf5 wsJ0_length_8abf5) := goodIn_app (goodIn_of _ (by decide +kernel)) ggX3_isName_J0_length_8abf5
set_option maxRecDepth 20000 in
theorem ggX3_isName_J0_charAt_5068e : GoodIn wsX3_isName wsJ0_charAt_5068e := goodIn_r _ [17, 7, 18, 19, 20, 5, 21, 12, 13, 22, 23, 24, 25, 26, 27, 28, 29, 30, 31, 32, 33, 34, 35, 36, 37, 38, 39, 40, 41, 42, 43, 44, 45, 46, 47, 48, 49, 50] (by decide +kernel) (by decide +kernel)
set_option maxRecDepth 20000 in
theorem gX3_isName_J0_charAt_5068e : GoodIn wsX3_isName (wsV RX3 109 RJ0 yJ0_charAt_5068e wsJ0_charAt_5068e) := goodIn_app (goodIn_of _ (by decide +kernel)) ggX3_isName_J0_charAt_5068e
theorem dX3_isName_0 : decode cX3_isName 0 = .ok (.iload_n 3, 1) := by decide +kernel
theorem dX3_isName_1 : decode cX3_isName 1 = .ok (.iload_n 2, 1) := by decide +kernel
theorem dX3_isName_2 : decode cX3_isName 2 = .ok (.isub, 1) := by decide +kernel
theorem dX3_isName_3 : decode cX3_isName 3 = .ok (.aload_n 1, 1) := by decide +kernel
theorem dX3_isName_4 : decode cX3_isName 4 = .ok (.invokevirtual 105, 3) := by decide +kernel
theorem dX3_isName_7 : decode cX3_isName 7 = .ok (.if_icmp .eq 5, 3) := by decide +kernel
theorem dX3_isName_10 : decode cX3_isName 10 = .ok (.iconst 0, 1) := by decide +kernel
theorem dX3_isName_11 : decode cX3_isName 11 = .ok (.ireturn, 1) := by decide +kernel
theorem dX3_isName_12 : decode cX3_isName 12 = .ok (.iload_n 2, 1) := by decide +kernel
theorem dX3_isName_13 : decode cX3_isName 13 = .ok (.istore 4, 2) := by decide +kernel
theorem dX3_isName_15 : decode cX3_isName 15 = .ok (.iload 4, 2) := by decide +kernel
theorem dX3_isName_17 : decode cX3_isName 17 = .ok (.iload_n 3, 1) := by decide +kernel
theorem dX3_isName_18 : decode cX3_isName 18 = .ok (.if_icmp .ge 29, 3) := by decide +kernel
theorem dX3_isName_21 : decode cX3_isName 21 = .ok (.aload_n 0, 1) := by decide +kernel
theorem dX3_isName_22 : decode cX3_isName 22 = .ok (.getfield 9, 3) := by decide +kernel
theorem dX3_isName_25 : decode cX3_isName 25 = .ok (.iload 4, 2) := by decide +kernel
theorem dX3_isName_27 : decode cX3_isName 27 = .ok (.iaload, 1) := by decide +kernel
theorem dX3_isName_28 : decode cX3_isName 28 = .ok (.aload_n 1, 1) := by decide +kernel
theorem dX3_isName_29 : decode cX3_isName 29 = .ok (.iload 4, 2) := by decide +kernel
theorem dX3_isName_31 : decode cX3_isName 31 = .ok (.iload_n 2, 1) := by decide +kernel
theorem dX3_isName_32 : decode cX3_isName 32 = .ok (.isub, 1) := by decide +kernel
theorem dX3_isName_33 : decode cX3_isName 33 = .ok (.invokevirtual 109, 3) := by decide +kernel
theorem dX3_isName_36 : decode cX3_isName 36 = .ok (.if_icmp .eq 5, 3) := by decide +kernel
theorem dX3_isName_39 : decode cX3_isName 39 = .ok (.iconst 0, 1) := by decide +kernel
theorem dX3_isName_40 : decode cX3_isName 40 = .ok (.ireturn, 1) := by decide +kernel
theorem dX3_isName_41 : decode cX3_isName 41 = .ok (.iinc 4 1, 3) := by decide +kernel
theorem dX3_isName_44 : decode cX3_isName 44 = .ok (.goto (-29), 3) := by decide +kernel
theorem dX3_isName_47 : decode cX3_isName 47 = .ok (.iconst 1, 1) := by decide +kernel
theorem dX3_isName_48 : decode cX3_isName 48 = .ok (.ireturn, 1) := by decide +kernel
set_option maxRecDepth 20000 in
theorem ggX3_readWord_X3_startOfNext : GoodIn wsX3_readWord wsX3_startOfNext := goodIn_r _ [7, 2, 8, 9, 10, 6, 11, 12, 1, 41, 42, 43, 44, 45, 46, 47, 48, 49] (by decide +kernel) (by decide +kernel)
set_option maxRecDepth 20000 in
theorem gX3_readWord_X3_startOfNext : GoodIn wsX3_readWord (wsV RX3 87 RX3 yX3_startOfNext wsX3_startOfNext) := goodIn_app (goodIn_of _ (by decide +kernel)) ggX3_readWord_X3_startOfNext
set_option maxRecDepth 20000 in
theorem ggX3_readWord_X3_endOfRun : GoodIn wsX3_readWord wsX3_endOfRun := goodIn_r _ [16, 12, 1, 17, 18, 19, 41, 42, 43, 44, 45, 46, 47, 48, 49] (by decide +kernel) (by decide +kernel)
set_option maxRecDepth 20000 in
theorem gX3_readWord_X3_endOfRun : GoodIn wsX3_readWord (wsV RX3 90 RX3 yX3_endOfRun wsX3_endOfRun) := goodIn_app (goodIn_of _ (by decide +kernel)) ggX3_readWord_X3_endOfRun
set_option maxRecDepth 20000 in
theorem ggX3_readWord_X7_isWithin : GoodIn wsX3_readWord wsX7_isWithin := goodIn_r _ [19] (by decide +kernel) (by decide +kernel)
set_option maxRecDepth 20000 in
theorem gX3_readWord_X7_isWithin_n113 : GoodIn wsX3_readWord (wsX7_isWithin) := ggX3_readWord_X7_isWithin
set_option maxRecDepth 20000 in
theorem ggX3_readWord_X3_fail : GoodIn wsX3_readWord wsX3_fail := goodIn_r _ [23, 24, 41, 42, 43, 44, 45, 46, 47, 48, 49] (by decide +kernel) (by decide +kernel)
set_option maxRecDepth 20000 in
theorem gX3_readWord_X3_fail : GoodIn wsX3_readWord (wsV RX3 102 RX3 yX3_fail wsX3_fail) := goodIn_app (goodIn_of _ (by decide +kernel)) ggX3_readWord_X3_fail
set_option maxRecDepth 20000 in
theorem ggX3_readWord_X6_longer : GoodIn wsX3_readWord wsX6_longer := goodIn_r _ [28, 29, 30, 27, 31, 32, 33, 34, 35, 36, 37, 38, 39, 40] (by decide +kernel) (by decide +kernel)
set_option maxRecDepth 20000 in
theorem gX3_readWord_X6_longer : GoodIn wsX3_readWord (va_wsS RX3 117 yX6_longer wsX6_longer) := goodIn_app (goodIn_of _ (by decide +kernel)) ggX3_readWord_X6_longer
theorem dX3_readWord_0 : decode cX3_readWord 0 = .ok (.aload_n 0, 1) := by decide +kernel
theorem dX3_readWord_1 : decode cX3_readWord 1 = .ok (.invokevirtual 87, 3) := by decide +kernel
theorem dX3_readWord_4 : decode cX3_readWord 4 = .ok (.istore_n 1, 1) := by decide +kernel
theorem dX3_readWord_5 : decode cX3_readWord 5 = .ok (.aload_n 0, 1) := by decide +kernel
theorem dX3_readWord_6 : decode cX3_readWord 6 = .ok (.iload_n 1, 1) := by decide +kernel
theorem dX3_readWord_7 : decode cX3_readWord 7 = .ok (.bipush 97, 2) := by decide +kernel
theorem dX3_readWord_9 : decode cX3_readWord 9 = .ok (.bipush 122, 2) := by decide +kernel
theorem dX3_readWord_11 : decode cX3_readWord 11 = .ok (.invokevirtual 90, 3) := by decide +kernel
theorem dX3_readWord_14 : decode cX3_readWord 14 = .ok (.istore_n 2, 1) := by decide +kernel
theorem dX3_readWord_15 : decode cX3_readWord 15 = .ok (.iload_n 2, 1) := by decide +kernel
theorem dX3_readWord_16 : decode cX3_readWord 16 = .ok (.iload_n 1, 1) := by decide +kernel
theorem dX3_readWord_17 : decode cX3_readWord 17 = .ok (.isub, 1) := by decide +kernel
theorem dX3_readWord_18 : decode cX3_readWord 18 = .ok (.iconst 1, 1) := by decide +kernel
theorem dX3_readWord_19 : decode cX3_readWord 19 = .ok (.bipush 8, 2) := by decide +kernel
theorem dX3_readWord_21 : decode cX3_readWord 21 = .ok (.invokestatic 113, 3) := by decide +kernel
theorem dX3_readWord_24 : decode cX3_readWord 24 = .ok (.ifCond .eq 16, 3) := by decide +kernel
theorem dX3_readWord_27 : decode cX3_readWord 27 = .ok (.aload_n 0, 1) := by decide +kernel
theorem dX3_readWord_28 : decode cX3_readWord 28 = .ok (.iload_n 1, 1) := by decide +kernel
theorem dX3_readWord_29 : decode cX3_readWord 29 = .ok (.bipush 97, 2) := by decide +kernel
theorem dX3_readWord_31 : decode cX3_readWord 31 = .ok (.bipush 104, 2) := by decide +kernel
theorem dX3_readWord_33 : decode cX3_readWord 33 = .ok (.invokevirtual 90, 3) := by decide +kernel
theorem dX3_readWord_36 : decode cX3_readWord 36 = .ok (.iload_n 2, 1) := by decide +kernel
theorem dX3_readWord_37 : decode cX3_readWord 37 = .ok (.if_icmp .eq 10, 3) := by decide +kernel
theorem dX3_readWord_40 : decode cX3_readWord 40 = .ok (.aload_n 0, 1) := by decide +kernel
theorem dX3_readWord_41 : decode cX3_readWord 41 = .ok (.iload_n 1, 1) := by decide +kernel
theorem dX3_readWord_42 : decode cX3_readWord 42 = .ok (.invokevirtual 102, 3) := by decide +kernel
theorem dX3_readWord_45 : decode cX3_readWord 45 = .ok (.lconst 0, 1) := by decide +kernel
theorem dX3_readWord_46 : decode cX3_readWord 46 = .ok (.lreturn, 1) := by decide +kernel
theorem dX3_readWord_47 : decode cX3_readWord 47 = .ok (.lconst 0, 1) := by decide +kernel
theorem dX3_readWord_48 : decode cX3_readWord 48 = .ok (.lstore_n 3, 1) := by decide +kernel
theorem dX3_readWord_49 : decode cX3_readWord 49 = .ok (.iload_n 1, 1) := by decide +kernel
theorem dX3_readWord_50 : decode cX3_readWord 50 = .ok (.istore 5, 2) := by decide +kernel
theorem dX3_readWord_52 : decode cX3_readWord 52 = .ok (.iload 5, 2) := by decide +kernel
theorem dX3_readWord_54 : decode cX3_readWord 54 = .ok (.iload_n 2, 1) := by decide +kernel
theorem dX3_readWord_55 : decode cX3_readWord 55 = .ok (.if_icmp .ge 24, 3) := by decide +kernel
theorem dX3_readWord_58 : decode cX3_readWord 58 = .ok (.lload_n 3, 1) := by decide +kernel
theorem dX3_readWord_59 : decode cX3_readWord 59 = .ok (.aload_n 0, 1) := by decide +kernel
theorem dX3_readWord_60 : decode cX3_readWord 60 = .ok (.getfield 9, 3) := by decide +kernel
theorem dX3_readWord_63 : decode cX3_readWord 63 = .ok (.iload 5, 2) := by decide +kernel
theorem dX3_readWord_65 : decode cX3_readWord 65 = .ok (.iaload, 1) := by decide +kernel
theorem dX3_readWord_66 : decode cX3_readWord 66 = .ok (.bipush 97, 2) := by decide +kernel
theorem dX3_readWord_68 : decode cX3_readWord 68 = .ok (.isub, 1) := by decide +kernel
theorem dX3_readWord_69 : decode cX3_readWord 69 = .ok (.invokestatic 117, 3) := by decide +kernel
theorem dX3_readWord_72 : decode cX3_readWord 72 = .ok (.lstore_n 3, 1) := by decide +kernel
theorem dX3_readWord_73 : decode cX3_readWord 73 = .ok (.iinc 5 1, 3) := by decide +kernel
theorem dX3_readWord_76 : decode cX3_readWord 76 = .ok (.goto (-24), 3) := by decide +kernel
theorem dX3_readWord_79 : decode cX3_readWord 79 = .ok (.aload_n 0, 1) := by decide +kernel
theorem dX3_readWord_80 : decode cX3_readWord 80 = .ok (.iload_n 2, 1) := by decide +kernel
theorem dX3_readWord_81 : decode cX3_readWord 81 = .ok (.putfield 35, 3) := by decide +kernel
theorem dX3_readWord_84 : decode cX3_readWord 84 = .ok (.lload_n 3, 1) := by decide +kernel
theorem dX3_readWord_85 : decode cX3_readWord 85 = .ok (.lreturn, 1) := by decide +kernel
set_option maxRecDepth 20000 in
theorem ggX3_readNumber_X3_startOfNext : GoodIn wsX3_readNumber wsX3_startOfNext := goodIn_r _ [7, 2, 8, 9, 10, 6, 11, 12, 1, 25, 26, 27, 28, 29, 30, 31, 32, 33] (by decide +kernel) (by decide +kernel)
set_option maxRecDepth 20000 in
theorem gX3_readNumber_X3_startOfNext : GoodIn wsX3_readNumber (wsV RX3 87 RX3 yX3_startOfNext wsX3_startOfNext) := goodIn_app (goodIn_of _ (by decide +kernel)) ggX3_readNumber_X3_startOfNext
set_option maxRecDepth 20000 in
theorem ggX3_readNumber_X3_endOfRun : GoodIn wsX3_readNumber wsX3_endOfRun := goodIn_r _ [16, 12, 1, 17, 18, 19, 25, 26, 27, 28, 29, 30, 31, 32, 33] (by decide +kernel) (by decide +kernel)
set_option maxRecDepth 20000 in
theorem gX3_readNumber_X3_endOfRun : GoodIn wsX3_readNumber (wsV RX3 90 RX3 yX3_endOfRun wsX3_endOfRun) := goodIn_app (goodIn_of _ (by decide +kernel)) ggX3_readNumber_X3_endOfRun
set_option maxRecDepth 20000 in
theorem ggX3_readNumber_X7_isWithin : GoodIn wsX3_readNumber wsX7_isWithin := goodIn_r _ [19] (by decide +kernel) (by decide +kernel)
set_option maxRecDepth 20000 in
theorem gX3_readNumber_X7_isWithin_n113 : GoodIn wsX3_readNumber (wsX7_isWithin) := ggX3_readNumber_X7_isWithin
set_option maxRecDepth 20000 in
theorem ggX3_readNumber_X3_fail : GoodIn wsX3_readNumber wsX3_fail := goodIn_r _ [23, 24, 25, 26, 27, 28, 29, 30, 31, 32, 33] (by decide +kernel) (by decide +kernel)
set_option maxRecDepth 20000 in
theorem gX3_readNumber_X3_fail : GoodIn wsX3_readNumber (wsV RX3 102 RX3 yX3_fail wsX3_fail) := goodIn_app (goodIn_of _ (by decide +kernel)) ggX3_readNumber_X3_fail
theorem dX3_readNumber_0 : decode cX3_readNumber 0 = .ok (.aload_n 0, 1) := by decide +kernel
theorem dX3_readNumber_1 : decode cX3_readNumber 1 = .ok (.invokevirtual 87, 3) := by decide +kernel
theorem dX3_readNumber_4 : decode cX3_readNumber 4 = .ok (.istore_n 2, 1) := by decide +kernel
theorem dX3_readNumber_5 : decode cX3_readNumber 5 = .ok (.aload_n 0, 1) := by decide +kernel
theorem dX3_readNumber_6 : decode cX3_readNumber 6 = .ok (.iload_n 2, 1) := by decide +kernel
theorem dX3_readNumber_7 : decode cX3_readNumber 7 = .ok (.bipush 48, 2) := by decide +kernel
theorem dX3_readNumber_9 : decode cX3_readNumber 9 = .ok (.bipush 57, 2) := by decide +kernel
theorem dX3_readNumber_11 : decode cX3_readNumber 11 = .ok (.invokevirtual 90, 3) := by decide +kernel
theorem dX3_readNumber_14 : decode cX3_readNumber 14 = .ok (.istore_n 3, 1) := by decide +kernel
theorem dX3_readNumber_15 : decode cX3_readNumber 15 = .ok (.iload_n 3, 1) := by decide +kernel
theorem dX3_readNumber_16 : decode cX3_readNumber 16 = .ok (.iload_n 2, 1) := by decide +kernel
theorem dX3_readNumber_17 : decode cX3_readNumber 17 = .ok (.isub, 1) := by decide +kernel
theorem dX3_readNumber_18 : decode cX3_readNumber 18 = .ok (.iconst 1, 1) := by decide +kernel
theorem dX3_readNumber_19 : decode cX3_readNumber 19 = .ok (.iconst 4, 1) := by decide +kernel
theorem dX3_readNumber_20 : decode cX3_readNumber 20 = .ok (.invokestatic 113, 3) := by decide +kernel
theorem dX3_readNumber_23 : decode cX3_readNumber 23 = .ok (.ifCond .ne 10, 3) := by decide +kernel
theorem dX3_readNumber_26 : decode cX3_readNumber 26 = .ok (.aload_n 0, 1) := by decide +kernel
theorem dX3_readNumber_27 : decode cX3_readNumber 27 = .ok (.iload_n 2, 1) := by decide +kernel
theorem dX3_readNumber_28 : decode cX3_readNumber 28 = .ok (.invokevirtual 102, 3) := by decide +kernel
theorem dX3_readNumber_31 : decode cX3_readNumber 31 = .ok (.iconst 0, 1) := by decide +kernel
theorem dX3_readNumber_32 : decode cX3_readNumber 32 = .ok (.ireturn, 1) := by decide +kernel
theorem dX3_readNumber_33 : decode cX3_readNumber 33 = .ok (.iconst 0, 1) := by decide +kernel
theorem dX3_readNumber_34 : decode cX3_readNumber 34 = .ok (.istore 4, 2) := by decide +kernel
theorem dX3_readNumber_36 : decode cX3_readNumber 36 = .ok (.iload_n 2, 1) := by decide +kernel
theorem dX3_readNumber_37 : decode cX3_readNumber 37 = .ok (.istore 5, 2) := by decide +kernel
theorem dX3_readNumber_39 : decode cX3_readNumber 39 = .ok (.iload 5, 2) := by decide +kernel
theorem dX3_readNumber_41 : decode cX3_readNumber 41 = .ok (.iload_n 3, 1) := by decide +kernel
theorem dX3_readNumber_42 : decode cX3_readNumber 42 = .ok (.if_icmp .ge 27, 3) := by decide +kernel
theorem dX3_readNumber_45 : decode cX3_readNumber 45 = .ok (.bipush 10, 2) := by decide +kernel
theorem dX3_readNumber_47 : decode cX3_readNumber 47 = .ok (.iload 4, 2) := by decide +kernel
theorem dX3_readNumber_49 : decode cX3_readNumber 49 = .ok (.imul, 1) := by decide +kernel
theorem dX3_readNumber_50 : decode cX3_readNumber 50 = .ok (.aload_n 0, 1) := by decide +kernel
theorem dX3_readNumber_51 : decode cX3_readNumber 51 = .ok (.getfield 9, 3) := by decide +kernel
theorem dX3_readNumber_54 : decode cX3_readNumber 54 = .ok (.iload 5, 2) := by decide +kernel
theorem dX3_readNumber_56 : decode cX3_readNumber 56 = .ok (.iaload, 1) := by decide +kernel
theorem dX3_readNumber_57 : decode cX3_readNumber 57 = .ok (.iadd, 1) := by decide +kernel
theorem dX3_readNumber_58 : decode cX3_readNumber 58 = .ok (.bipush 48, 2) := by decide +kernel
theorem dX3_readNumber_60 : decode cX3_readNumber 60 = .ok (.isub, 1) := by decide +kernel
theorem dX3_readNumber_61 : decode cX3_readNumber 61 = .ok (.istore 4, 2) := by decide +kernel
theorem dX3_readNumber_63 : decode cX3_readNumber 63 = .ok (.iinc 5 1, 3) := by decide +kernel
theorem dX3_readNumber_66 : decode cX3_readNumber 66 = .ok (.goto (-27), 3) := by decide +kernel
theorem dX3_readNumber_69 : decode cX3_readNumber 69 = .ok (.iload 4, 2) := by decide +kernel
theorem dX3_readNumber_71 : decode cX3_readNumber 71 = .ok (.iload_n 1, 1) := by decide +kernel
theorem dX3_readNumber_72 : decode cX3_readNumber 72 = .ok (.if_icmp .le 10, 3) := by decide +kernel
theorem dX3_readNumber_75 : decode cX3_readNumber 75 = .ok (.aload_n 0, 1) := by decide +kernel
theorem dX3_readNumber_76 : decode cX3_readNumber 76 = .ok (.iload_n 2, 1) := by decide +kernel
theorem dX3_readNumber_77 : decode cX3_readNumber 77 = .ok (.invokevirtual 102, 3) := by decide +kernel
theorem dX3_readNumber_80 : decode cX3_readNumber 80 = .ok (.iconst 0, 1) := by decide +kernel
theorem dX3_readNumber_81 : decode cX3_readNumber 81 = .ok (.ireturn, 1) := by decide +kernel
theorem dX3_readNumber_82 : decode cX3_readNumber 82 = .ok (.aload_n 0, 1) := by decide +kernel
theorem dX3_readNumber_83 : decode cX3_readNumber 83 = .ok (.iload_n 3, 1) := by decide +kernel
theorem dX3_readNumber_84 : decode cX3_readNumber 84 = .ok (.putfield 35, 3) := by decide +kernel
theorem dX3_readNumber_87 : decode cX3_readNumber 87 = .ok (.iload 4, 2) := by decide +kernel
theorem dX3_readNumber_89 : decode cX3_readNumber 89 = .ok (.ireturn, 1) := by decide +kernel
set_option maxRecDepth 20000 in
theorem ggX3_readEnd_X3_startOfNext : GoodIn wsX3_readEnd wsX3_startOfNext := goodIn_r _ [8, 3, 9, 10, 11, 7, 12, 1, 2, 18, 19, 20, 21, 22, 23, 24, 25, 26] (by decide +kernel) (by decide +kernel)
set_option maxRecDepth 20000 in
theorem gX3_readEnd_X3_startOfNext : GoodIn wsX3_readEnd (wsV RX3 87 RX3 yX3_startOfNext wsX3_startOfNext) := goodIn_app (goodIn_of _ (by decide +kernel)) ggX3_readEnd_X3_startOfNext
set_option maxRecDepth 20000 in
theorem ggX3_readEnd_X3_fail : GoodIn wsX3_readEnd wsX3_fail := goodIn_r _ [16, 17, 18, 19, 20, 21, 22, 23, 24, 25, 26] (by decide +kernel) (by decide +kernel)
set_option maxRecDepth 20000 in
theorem gX3_readEnd_X3_fail : GoodIn wsX3_readEnd (wsV RX3 102 RX3 yX3_fail wsX3_fail) := goodIn_app (goodIn_of _ (by decide +kernel)) ggX3_readEnd_X3_fail
theorem dX3_readEnd_0 : decode cX3_readEnd 0 = .ok (.aload_n 0, 1) := by decide +kernel
theorem dX3_readEnd_1 : decode cX3_readEnd 1 = .ok (.invokevirtual 87, 3) := by decide +kernel
theorem dX3_readEnd_4 : decode cX3_readEnd 4 = .ok (.istore_n 1, 1) := by decide +kernel
theorem dX3_readEnd_5 : decode cX3_readEnd 5 = .ok (.iload_n 1, 1) := by decide +kernel
theorem dX3_readEnd_6 : decode cX3_readEnd 6 = .ok (.aload_n 0, 1) := by decide +kernel
theorem dX3_readEnd_7 : decode cX3_readEnd 7 = .ok (.getfield 15, 3) := by decide +kernel
theorem dX3_readEnd_10 : decode cX3_readEnd 10 = .ok (.if_icmp .ge 24, 3) := by decide +kernel
theorem dX3_readEnd_13 : decode cX3_readEnd 13 = .ok (.aload_n 0, 1) := by decide +kernel
theorem dX3_readEnd_14 : decode cX3_readEnd 14 = .ok (.getfield 9, 3) := by decide +kernel
theorem dX3_readEnd_17 : decode cX3_readEnd 17 = .ok (.iload_n 1, 1) := by decide +kernel
theorem dX3_readEnd_18 : decode cX3_readEnd 18 = .ok (.iaload, 1) := by decide +kernel
theorem dX3_readEnd_19 : decode cX3_readEnd 19 = .ok (.bipush 59, 2) := by decide +kernel
theorem dX3_readEnd_21 : decode cX3_readEnd 21 = .ok (.if_icmp .ne 13, 3) := by decide +kernel
theorem dX3_readEnd_24 : decode cX3_readEnd 24 = .ok (.aload_n 0, 1) := by decide +kernel
theorem dX3_readEnd_25 : decode cX3_readEnd 25 = .ok (.iload_n 1, 1) := by decide +kernel
theorem dX3_readEnd_26 : decode cX3_readEnd 26 = .ok (.iconst 1, 1) := by decide +kernel
theorem dX3_readEnd_27 : decode cX3_readEnd 27 = .ok (.iadd, 1) := by decide +kernel
theorem dX3_readEnd_28 : decode cX3_readEnd 28 = .ok (.putfield 35, 3) := by decide +kernel
theorem dX3_readEnd_31 : decode cX3_readEnd 31 = .ok (.goto 8, 3) := by decide +kernel
theorem dX3_readEnd_34 : decode cX3_readEnd 34 = .ok (.aload_n 0, 1) := by decide +kernel
theorem dX3_readEnd_35 : decode cX3_readEnd 35 = .ok (.iload_n 1, 1) := by decide +kernel
theorem dX3_readEnd_36 : decode cX3_readEnd 36 = .ok (.invokevirtual 102, 3) := by decide +kernel
theorem dX3_readEnd_39 : decode cX3_readEnd 39 = .ok (.return_, 1) := by decide +kernel
theorem dX3_fail_0 : decode cX3_fail 0 = .ok (.aload_n 0, 1) := by decide +kernel
theorem dX3_fail_1 : decode cX3_fail 1 = .ok (.getfield 38, 3) := by decide +kernel
theorem dX3_fail_4 : decode cX3_fail 4 = .ok (.iconst (-1), 1) := by decide +kernel
theorem dX3_fail_5 : decode cX3_fail 5 = .ok (.if_icmp .ne 8, 3) := by decide +kernel
theorem dX3_fail_8 : decode cX3_fail 8 = .ok (.aload_n 0, 1) := by decide +kernel
theorem dX3_fail_9 : decode cX3_fail 9 = .ok (.iload_n 1, 1) := by decide +kernel
theorem dX3_fail_10 : decode cX3_fail 10 = .ok (.putfield 38, 3) := by decide +kernel
theorem dX3_fail_13 : decode cX3_fail 13 = .ok (.return_, 1) := by decide +kernel
set_option maxRecDepth 20000 in
theorem ggX3_startOfNext_X3_skipBlanks : GoodIn wsX3_startOfNext wsX3_skipBlanks := goodIn_r _ [6, 1, 7, 8, 9, 10, 11, 12, 13, 14, 15, 16, 17] (by decide +kernel) (by decide +kernel)
set_option maxRecDepth 20000 in
theorem gX3_startOfNext_X3_skipBlanks : GoodIn wsX3_startOfNext (wsV RX3 45 RX3 yX3_skipBlanks wsX3_skipBlanks) := goodIn_app (goodIn_of _ (by decide +kernel)) ggX3_startOfNext_X3_skipBlanks
theorem dX3_startOfNext_0 : decode cX3_startOfNext 0 = .ok (.aload_n 0, 1) := by decide +kernel
theorem dX3_startOfNext_1 : decode cX3_startOfNext 1 = .ok (.invokevirtual 45, 3) := by decide +kernel
theorem dX3_startOfNext_4 : decode cX3_startOfNext 4 = .ok (.aload_n 0, 1) := by decide +kernel
theorem dX3_startOfNext_5 : decode cX3_startOfNext 5 = .ok (.getfield 35, 3) := by decide +kernel
theorem dX3_startOfNext_8 : decode cX3_startOfNext 8 = .ok (.ireturn, 1) := by decide +kernel
theorem dX3_skipBlanks_0 : decode cX3_skipBlanks 0 = .ok (.aload_n 0, 1) := by decide +kernel
theorem dX3_skipBlanks_1 : decode cX3_skipBlanks 1 = .ok (.getfield 35, 3) := by decide +kernel
theorem dX3_skipBlanks_4 : decode cX3_skipBlanks 4 = .ok (.aload_n 0, 1) := by decide +kernel
theorem dX3_skipBlanks_5 : decode cX3_skipBlanks 5 = .ok (.getfield 15, 3) := by decide +kernel
theorem dX3_skipBlanks_8 : decode cX3_skipBlanks 8 = .ok (.if_icmp .ge 30, 3) := by decide +kernel
theorem dX3_skipBlanks_11 : decode cX3_skipBlanks 11 = .ok (.aload_n 0, 1) := by decide +kernel
theorem dX3_skipBlanks_12 : decode cX3_skipBlanks 12 = .ok (.getfield 9, 3) := by decide +kernel
theorem dX3_skipBlanks_15 : decode cX3_skipBlanks 15 = .ok (.aload_n 0, 1) := by decide +kernel
theorem dX3_skipBlanks_16 : decode cX3_skipBlanks 16 = .ok (.getfield 35, 3) := by decide +kernel
theorem dX3_skipBlanks_19 : decode cX3_skipBlanks 19 = .ok (.iaload, 1) := by decide +kernel
theorem dX3_skipBlanks_20 : decode cX3_skipBlanks 20 = .ok (.bipush 32, 2) := by decide +kernel
theorem dX3_skipBlanks_22 : decode cX3_skipBlanks 22 = .ok (.if_icmp .ne 16, 3) := by decide +kernel
theorem dX3_skipBlanks_25 : decode cX3_skipBlanks 25 = .ok (.aload_n 0, 1) := by decide +kernel
theorem dX3_skipBlanks_26 : decode cX3_skipBlanks 26 = .ok (.dup, 1) := by decide +kernel
theorem dX3_skipBlanks_27 : decode cX3_skipBlanks 27 = .ok (.getfield 35, 3) := by decide +kernel
theorem dX3_skipBlanks_30 : decode cX3_skipBlanks 30 = .ok (.iconst 1, 1) := by decide +kernel
theorem dX3_skipBlanks_31 : decode cX3_skipBlanks 31 = .ok (.iadd, 1) := by decide +kernel
theorem dX3_skipBlanks_32 : decode cX3_skipBlanks 32 = .ok (.putfield 35, 3) := by decide +kernel
theorem dX3_skipBlanks_35 : decode cX3_skipBlanks 35 = .ok (.goto (-35), 3) := by decide +kernel
theorem dX3_skipBlanks_38 : decode cX3_skipBlanks 38 = .ok (.return_, 1) := by decide +kernel
set_option maxRecDepth 20000 in
theorem ggX3_endOfRun_X7_isWithin : GoodIn wsX3_endOfRun wsX7_isWithin := goodIn_r _ [5] (by decide +kernel) (by decide +kernel)
set_option maxRecDepth 20000 in
theorem gX3_endOfRun_X7_isWithin_n113 : GoodIn wsX3_endOfRun (wsX7_isWithin) := ggX3_endOfRun_X7_isWithin
theorem dX3_endOfRun_0 : decode cX3_endOfRun 0 = .ok (.iload_n 1, 1) := by decide +kernel
theorem dX3_endOfRun_1 : decode cX3_endOfRun 1 = .ok (.istore 4, 2) := by decide +kernel
theorem dX3_endOfRun_3 : decode cX3_endOfRun 3 = .ok (.iload 4, 2) := by decide +kernel
theorem dX3_endOfRun_5 : decode cX3_endOfRun 5 = .ok (.aload_n 0, 1) := by decide +kernel
theorem dX3_endOfRun_6 : decode cX3_endOfRun 6 = .ok (.getfield 15, 3) := by decide +kernel
theorem dX3_endOfRun_9 : decode cX3_endOfRun 9 = .ok (.if_icmp .ge 24, 3) := by decide +kernel
theorem dX3_endOfRun_12 : decode cX3_endOfRun 12 = .ok (.aload_n 0, 1) := by decide +kernel
theorem dX3_endOfRun_13 : decode cX3_endOfRun 13 = .ok (.getfield 9, 3) := by decide +kernel
theorem dX3_endOfRun_16 : decode cX3_endOfRun 16 = .ok (.iload 4, 2) := by decide +kernel
theorem dX3_endOfRun_18 : decode cX3_endOfRun 18 = .ok (.iaload, 1) := by decide +kernel
theorem dX3_endOfRun_19 : decode cX3_endOfRun 19 = .ok (.iload_n 2, 1) := by decide +kernel
theorem dX3_endOfRun_20 : decode cX3_endOfRun 20 = .ok (.iload_n 3, 1) := by decide +kernel
theorem dX3_endOfRun_21 : decode cX3_endOfRun 21 = .ok (.invokestatic 113, 3) := by decide +kernel
theorem dX3_endOfRun_24 : decode cX3_endOfRun 24 = .ok (.ifCond .eq 9, 3) := by decide +kernel
theorem dX3_endOfRun_27 : decode cX3_endOfRun 27 = .ok (.iinc 4 1, 3) := by decide +kernel
theorem dX3_endOfRun_30 : decode cX3_endOfRun 30 = .ok (.goto (-27), 3) := by decide +kernel
theorem dX3_endOfRun_33 : decode cX3_endOfRun 33 = .ok (.iload 4, 2) := by decide +kernel
theorem dX3_endOfRun_35 : decode cX3_endOfRun 35 = .ok (.ireturn, 1) := by decide +kernel
set_option maxRecDepth 20000 in
theorem ggX4_init_X0_init : GoodIn wsX4_init wsX0_init := goodIn_r _ [11, 12, 2, 3, 13, 14, 15, 16, 17, 18, 19, 20, 21, 22, 23, 24, 28, 29, 30, 31, 32, 33, 34, 35, 36, 37] (by decide +kernel) (by decide +kernel)
set_option maxRecDepth 20000 in
theorem gX4_init_X0_init_n24 : GoodIn wsX4_init (wsX0_init) := ggX4_init_X0_init
theorem dX4_init_0 : decode cX4_init 0 = .ok (.aload_n 0, 1) := by decide +kernel
theorem dX4_init_1 : decode cX4_init 1 = .ok (.invokespecial 3, 3) := by decide +kernel
theorem dX4_init_4 : decode cX4_init 4 = .ok (.aload_n 0, 1) := by decide +kernel
theorem dX4_init_5 : decode cX4_init 5 = .ok (.bipush 12, 2) := by decide +kernel
theorem dX4_init_7 : decode cX4_init 7 = .ok (.anewarray 9, 3) := by decide +kernel
theorem dX4_init_10 : decode cX4_init 10 = .ok (.putfield 11, 3) := by decide +kernel
theorem dX4_init_13 : decode cX4_init 13 = .ok (.aload_n 0, 1) := by decide +kernel
theorem dX4_init_14 : decode cX4_init 14 = .ok (.iconst 0, 1) := by decide +kernel
theorem dX4_init_15 : decode cX4_init 15 = .ok (.putfield 17, 3) := by decide +kernel
theorem dX4_init_18 : decode cX4_init 18 = .ok (.aload_n 0, 1) := by decide +kernel
theorem dX4_init_19 : decode cX4_init 19 = .ok (.iconst 0, 1) := by decide +kernel
theorem dX4_init_20 : decode cX4_init 20 = .ok (.putfield 21, 3) := by decide +kernel
theorem dX4_init_23 : decode cX4_init 23 = .ok (.iconst 0, 1) := by decide +kernel
theorem dX4_init_24 : decode cX4_init 24 = .ok (.istore_n 1, 1) := by decide +kernel
theorem dX4_init_25 : decode cX4_init 25 = .ok (.iload_n 1, 1) := by decide +kernel
theorem dX4_init_26 : decode cX4_init 26 = .ok (.bipush 12, 2) := by decide +kernel
theorem dX4_init_28 : decode cX4_init 28 = .ok (.if_icmp .ge 22, 3) := by decide +kernel
theorem dX4_init_31 : decode cX4_init 31 = .ok (.aload_n 0, 1) := by decide +kernel
theorem dX4_init_32 : decode cX4_init 32 = .ok (.getfield 11, 3) := by decide +kernel
theorem dX4_init_35 : decode cX4_init 35 = .ok (.iload_n 1, 1) := by decide +kernel
theorem dX4_init_36 : decode cX4_init 36 = .ok (.new 9, 3) := by decide +kernel
theorem dX4_init_39 : decode cX4_init 39 = .ok (.dup, 1) := by decide +kernel
theorem dX4_init_40 : decode cX4_init 40 = .ok (.invokespecial 24, 3) := by decide +kernel
theorem dX4_init_43 : decode cX4_init 43 = .ok (.aastore, 1) := by decide +kernel
theorem dX4_init_44 : decode cX4_init 44 = .ok (.iinc 1 1, 3) := by decide +kernel
theorem dX4_init_47 : decode cX4_init 47 = .ok (.goto (-22), 3) := by decide +kernel
theorem dX4_init_50 : decode cX4_init 50 = .ok (.return_, 1) := by decide +kernel
theorem dX4_forget_0 : decode cX4_forget 0 = .ok (.aload_n 0, 1) := by decide +kernel
theorem dX4_forget_1 : decode cX4_forget 1 = .ok (.iconst 0, 1) := by decide +kernel
theorem dX4_forget_2 : decode cX4_forget 2 = .ok (.putfield 17, 3) := by decide +kernel
theorem dX4_forget_5 : decode cX4_forget 5 = .ok (.aload_n 0, 1) := by decide +kernel
theorem dX4_forget_6 : decode cX4_forget 6 = .ok (.iconst 0, 1) := by decide +kernel
theorem dX4_forget_7 : decode cX4_forget 7 = .ok (.putfield 21, 3) := by decide +kernel
theorem dX4_forget_10 : decode cX4_forget 10 = .ok (.return_, 1) := by decide +kernel
set_option maxRecDepth 20000 in
theorem ggX4_remember_X0_copyFrom : GoodIn wsX4_remember wsX0_copyFrom := goodIn_r _ [12, 13, 14, 15, 16, 17, 18, 19, 11, 20, 21, 22, 23, 24, 25, 26, 30, 31, 32, 33, 34, 35, 36, 37, 38, 39] (by decide +kernel) (by decide +kernel)
set_option maxRecDepth 20000 in
theorem gX4_remember_X0_copyFrom : GoodIn wsX4_remember (wsV RX4 25 RX0 yX0_copyFrom wsX0_copyFrom) := goodIn_app (goodIn_of _ (by decide +kernel)) ggX4_remember_X0_copyFrom
theorem dX4_remember_0 : decode cX4_remember 0 = .ok (.aload_n 0, 1) := by decide +kernel
theorem dX4_remember_1 : decode cX4_remember 1 = .ok (.getfield 11, 3) := by decide +kernel
theorem dX4_remember_4 : decode cX4_remember 4 = .ok (.aload_n 0, 1) := by decide +kernel
theorem dX4_remember_5 : decode cX4_remember 5 = .ok (.getfield 17, 3) := by decide +kernel
theorem dX4_remember_8 : decode cX4_remember 8 = .ok (.aaload, 1) := by decide +kernel
theorem dX4_remember_9 : decode cX4_remember 9 = .ok (.astore_n 2, 1) := by decide +kernel
theorem dX4_remember_10 : decode cX4_remember 10 = .ok (.aload_n 2, 1) := by decide +kernel
theorem dX4_remember_11 : decode cX4_remember 11 = .ok (.ifnull 48, 3) := by decide +kernel
theorem dX4_remember_14 : decode cX4_remember 14 = .ok (.aload_n 2, 1) := by decide +kernel
theorem dX4_remember_15 : decode cX4_remember 15 = .ok (.aload_n 1, 1) := by decide +kernel
theorem dX4_remember_16 : decode cX4_remember 16 = .ok (.invokevirtual 25, 3) := by decide +kernel
theorem dX4_remember_19 : decode cX4_remember 19 = .ok (.aload_n 0, 1) := by decide +kernel
theorem dX4_remember_20 : decode cX4_remember 20 = .ok (.aload_n 0, 1) := by decide +kernel
theorem dX4_remember_21 : decode cX4_remember 21 = .ok (.getfield 17, 3) := by decide +kernel
theorem dX4_remember_24 : decode cX4_remember 24 = .ok (.iconst 1, 1) := by decide +kernel
theorem dX4_remember_25 : decode cX4_remember 25 = .ok (.iadd, 1) := by decide +kernel
theorem dX4_remember_26 : decode cX4_remember 26 = .ok (.bipush 12, 2) := by decide +kernel
theorem dX4_remember_28 : decode cX4_remember 28 = .ok (.if_icmp .ge 12, 3) := by decide +kernel
theorem dX4_remember_31 : decode cX4_remember 31 = .ok (.aload_n 0, 1) := by decide +kernel
theorem dX4_remember_32 : decode cX4_remember 32 = .ok (.getfield 17, 3) := by decide +kernel
theorem dX4_remember_35 : decode cX4_remember 35 = .ok (.iconst 1, 1) := by decide +kernel
theorem dX4_remember_36 : decode cX4_remember 36 = .ok (.iadd, 1) := by decide +kernel
theorem dX4_remember_37 : decode cX4_remember 37 = .ok (.goto 4, 3) := by decide +kernel
theorem dX4_remember_40 : decode cX4_remember 40 = .ok (.iconst 0, 1) := by decide +kernel
theorem dX4_remember_41 : decode cX4_remember 41 = .ok (.putfield 17, 3) := by decide +kernel
theorem dX4_remember_44 : decode cX4_remember 44 = .ok (.aload_n 0, 1) := by decide +kernel
theorem dX4_remember_45 : decode cX4_remember 45 = .ok (.aload_n 0, 1) := by decide +kernel
theorem dX4_remember_46 : decode cX4_remember 46 = .ok (.getfield 21, 3) := by decide +kernel
theorem dX4_remember_49 : decode cX4_remember 49 = .ok (.iconst 1, 1) := by decide +kernel
theorem dX4_remember_50 : decode cX4_remember 50 = .ok (.iadd, 1) := by decide +kernel
theorem dX4_remember_51 : decode cX4_remember 51 = .ok (.bipush 12, 2) := by decide +kernel
theorem dX4_remember_53 : decode cX4_remember 53 = .ok (.invokestatic 29, 3) := by decide +kernel
theorem dX4_remember_56 : decode cX4_remember 56 = .ok (.putfield 21, 3) := by decide +kernel
theorem dX4_remember_59 : decode cX4_remember 59 = .ok (.return_, 1) := by decide +kernel
set_option maxRecDepth 20000 in
theorem ggX4_bringBack_X0_copyFrom : GoodIn wsX4_bringBack wsX0_copyFrom := goodIn_r _ [8, 9, 10, 11, 12, 13, 14, 15, 7, 16, 17, 18, 19, 20, 21, 22, 26, 27, 28, 29, 30, 31, 32, 33, 34, 35] (by decide +kernel) (by decide +kernel)
set_option maxRecDepth 20000 in
theorem gX4_bringBack_X0_copyFrom : GoodIn wsX4_bringBack (wsV RX4 25 RX0 yX0_copyFrom wsX0_copyFrom) := goodIn_app (goodIn_of _ (by decide +kernel)) ggX4_bringBack_X0_copyFrom
theorem dX4_bringBack_0 : decode cX4_bringBack 0 = .ok (.aload_n 0, 1) := by decide +kernel
theorem dX4_bringBack_1 : decode cX4_bringBack 1 = .ok (.getfield 17, 3) := by decide +kernel
theorem dX4_bringBack_4 : decode cX4_bringBack 4 = .ok (.ifCond .le 12, 3) := by decide +kernel
theorem dX4_bringBack_7 : decode cX4_bringBack 7 = .ok (.aload_n 0, 1) := by decide +kernel
theorem dX4_bringBack_8 : decode cX4_bringBack 8 = .ok (.getfield 17, 3) := by decide +kernel
theorem dX4_bringBack_11 : decode cX4_bringBack 11 = .ok (.iconst 1, 1) := by decide +kernel
theorem dX4_bringBack_12 : decode cX4_bringBack 12 = .ok (.isub, 1) := by decide +kernel
theorem dX4_bringBack_13 : decode cX4_bringBack 13 = .ok (.goto 5, 3) := by decide +kernel
theorem dX4_bringBack_16 : decode cX4_bringBack 16 = .ok (.bipush 11, 2) := by decide +kernel
theorem dX4_bringBack_18 : decode cX4_bringBack 18 = .ok (.istore_n 2, 1) := by decide +kernel
theorem dX4_bringBack_19 : decode cX4_bringBack 19 = .ok (.aload_n 0, 1) := by decide +kernel
theorem dX4_bringBack_20 : decode cX4_bringBack 20 = .ok (.getfield 11, 3) := by decide +kernel
theorem dX4_bringBack_23 : decode cX4_bringBack 23 = .ok (.iload_n 2, 1) := by decide +kernel
theorem dX4_bringBack_24 : decode cX4_bringBack 24 = .ok (.aaload, 1) := by decide +kernel
theorem dX4_bringBack_25 : decode cX4_bringBack 25 = .ok (.astore_n 3, 1) := by decide +kernel
theorem dX4_bringBack_26 : decode cX4_bringBack 26 = .ok (.aload_n 3, 1) := by decide +kernel
theorem dX4_bringBack_27 : decode cX4_bringBack 27 = .ok (.ifnull 30, 3) := by decide +kernel
theorem dX4_bringBack_30 : decode cX4_bringBack 30 = .ok (.aload_n 0, 1) := by decide +kernel
theorem dX4_bringBack_31 : decode cX4_bringBack 31 = .ok (.getfield 21, 3) := by decide +kernel
theorem dX4_bringBack_34 : decode cX4_bringBack 34 = .ok (.ifCond .le 23, 3) := by decide +kernel
theorem dX4_bringBack_37 : decode cX4_bringBack 37 = .ok (.aload_n 1, 1) := by decide +kernel
theorem dX4_bringBack_38 : decode cX4_bringBack 38 = .ok (.aload_n 3, 1) := by decide +kernel
theorem dX4_bringBack_39 : decode cX4_bringBack 39 = .ok (.invokevirtual 25, 3) := by decide +kernel
theorem dX4_bringBack_42 : decode cX4_bringBack 42 = .ok (.aload_n 0, 1) := by decide +kernel
theorem dX4_bringBack_43 : decode cX4_bringBack 43 = .ok (.iload_n 2, 1) := by decide +kernel
theorem dX4_bringBack_44 : decode cX4_bringBack 44 = .ok (.putfield 17, 3) := by decide +kernel
theorem dX4_bringBack_47 : decode cX4_bringBack 47 = .ok (.aload_n 0, 1) := by decide +kernel
theorem dX4_bringBack_48 : decode cX4_bringBack 48 = .ok (.dup, 1) := by decide +kernel
theorem dX4_bringBack_49 : decode cX4_bringBack 49 = .ok (.getfield 21, 3) := by decide +kernel
theorem dX4_bringBack_52 : decode cX4_bringBack 52 = .ok (.iconst 1, 1) := by decide +kernel
theorem dX4_bringBack_53 : decode cX4_bringBack 53 = .ok (.isub, 1) := by decide +kernel
theorem dX4_bringBack_54 : decode cX4_bringBack 54 = .ok (.putfield 21, 3) := by decide +kernel
theorem dX4_bringBack_57 : decode cX4_bringBack 57 = .ok (.return_, 1) := by decide +kernel
set_option maxRecDepth 20000 in
theorem ggX5_newScore_X5_held : GoodIn wsX5_newScore wsX5_held := goodIn_r _ [8, 1, 2, 3, 4, 9, 10, 11] (by decide +kernel) (by decide +kernel)
set_option maxRecDepth 20000 in
theorem gX5_newScore_X5_held : GoodIn wsX5_newScore (va_wsS RX5 9 yX5_held wsX5_held) := goodIn_app (goodIn_of _ (by decide +kernel)) ggX5_newScore_X5_held
theorem dX5_newScore_0 : decode cX5_newScore 0 = .ok (.iload_n 1, 1) := by decide +kernel
theorem dX5_newScore_1 : decode cX5_newScore 1 = .ok (.invokestatic 9, 3) := by decide +kernel
theorem dX5_newScore_4 : decode cX5_newScore 4 = .ok (.istore 5, 2) := by decide +kernel
theorem dX5_newScore_6 : decode cX5_newScore 6 = .ok (.iload 5, 2) := by decide +kernel
theorem dX5_newScore_8 : decode cX5_newScore 8 = .ok (.bipush 10, 2) := by decide +kernel
theorem dX5_newScore_10 : decode cX5_newScore 10 = .ok (.iadd, 1) := by decide +kernel
theorem dX5_newScore_11 : decode cX5_newScore 11 = .ok (.invokestatic 9, 3) := by decide +kernel
theorem dX5_newScore_14 : decode cX5_newScore 14 = .ok (.istore 6, 2) := by decide +kernel
theorem dX5_newScore_16 : decode cX5_newScore 16 = .ok (.iload_n 3, 1) := by decide +kernel
theorem dX5_newScore_17 : decode cX5_newScore 17 = .ok (.iconst (-1), 1) := by decide +kernel
theorem dX5_newScore_18 : decode cX5_newScore 18 = .ok (.if_icmp .eq 15, 3) := by decide +kernel
theorem dX5_newScore_21 : decode cX5_newScore 21 = .ok (.iload_n 3, 1) := by decide +kernel
