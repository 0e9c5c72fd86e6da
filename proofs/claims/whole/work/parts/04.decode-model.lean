theorem dX6_init_0 : decode cX6_init 0 = .ok (.aload_n 0, 1) := by decide +kernel
theorem dX6_init_1 : decode cX6_init 1 = .ok (.invokespecial 1, 3) := by decide +kernel
theorem dX6_init_4 : decode cX6_init 4 = .ok (.aload_n 0, 1) := by decide +kernel
theorem dX6_init_5 : decode cX6_init 5 = .ok (.sipush 296, 3) := by decide +kernel
theorem dX6_init_8 : decode cX6_init 8 = .ok (.newarray .int, 2) := by decide +kernel
theorem dX6_init_10 : decode cX6_init 10 = .ok (.putfield 7, 3) := by decide +kernel
theorem dX6_init_13 : decode cX6_init 13 = .ok (.aload_n 0, 1) := by decide +kernel
theorem dX6_init_14 : decode cX6_init 14 = .ok (.sipush 592, 3) := by decide +kernel
theorem dX6_init_17 : decode cX6_init 17 = .ok (.newarray .int, 2) := by decide +kernel
theorem dX6_init_19 : decode cX6_init 19 = .ok (.putfield 13, 3) := by decide +kernel
theorem dX6_init_22 : decode cX6_init 22 = .ok (.aload_n 0, 1) := by decide +kernel
theorem dX6_init_23 : decode cX6_init 23 = .ok (.sipush 148, 3) := by decide +kernel
theorem dX6_init_26 : decode cX6_init 26 = .ok (.newarray .int, 2) := by decide +kernel
theorem dX6_init_28 : decode cX6_init 28 = .ok (.putfield 16, 3) := by decide +kernel
theorem dX6_init_31 : decode cX6_init 31 = .ok (.aload_n 0, 1) := by decide +kernel
theorem dX6_init_32 : decode cX6_init 32 = .ok (.bipush 60, 2) := by decide +kernel
theorem dX6_init_34 : decode cX6_init 34 = .ok (.newarray .int, 2) := by decide +kernel
theorem dX6_init_36 : decode cX6_init 36 = .ok (.putfield 19, 3) := by decide +kernel
theorem dX6_init_39 : decode cX6_init 39 = .ok (.iconst 0, 1) := by decide +kernel
theorem dX6_init_40 : decode cX6_init 40 = .ok (.istore_n 1, 1) := by decide +kernel
theorem dX6_init_41 : decode cX6_init 41 = .ok (.iload_n 1, 1) := by decide +kernel
theorem dX6_init_42 : decode cX6_init 42 = .ok (.bipush 24, 2) := by decide +kernel
theorem dX6_init_44 : decode cX6_init 44 = .ok (.if_icmp .ge 19, 3) := by decide +kernel
theorem dX6_init_47 : decode cX6_init 47 = .ok (.aload_n 0, 1) := by decide +kernel
theorem dX6_init_48 : decode cX6_init 48 = .ok (.getfield 7, 3) := by decide +kernel
theorem dX6_init_51 : decode cX6_init 51 = .ok (.bipush 34, 2) := by decide +kernel
theorem dX6_init_53 : decode cX6_init 53 = .ok (.iload_n 1, 1) := by decide +kernel
theorem dX6_init_54 : decode cX6_init 54 = .ok (.iadd, 1) := by decide +kernel
theorem dX6_init_55 : decode cX6_init 55 = .ok (.iconst 3, 1) := by decide +kernel
theorem dX6_init_56 : decode cX6_init 56 = .ok (.iastore, 1) := by decide +kernel
theorem dX6_init_57 : decode cX6_init 57 = .ok (.iinc 1 1, 3) := by decide +kernel
theorem dX6_init_60 : decode cX6_init 60 = .ok (.goto (-19), 3) := by decide +kernel
theorem dX6_init_63 : decode cX6_init 63 = .ok (.aload_n 0, 1) := by decide +kernel
theorem dX6_init_64 : decode cX6_init 64 = .ok (.getfield 7, 3) := by decide +kernel
theorem dX6_init_67 : decode cX6_init 67 = .ok (.bipush 58, 2) := by decide +kernel
theorem dX6_init_69 : decode cX6_init 69 = .ok (.bipush 6, 2) := by decide +kernel
theorem dX6_init_71 : decode cX6_init 71 = .ok (.iastore, 1) := by decide +kernel
theorem dX6_init_72 : decode cX6_init 72 = .ok (.aload_n 0, 1) := by decide +kernel
theorem dX6_init_73 : decode cX6_init 73 = .ok (.getfield 7, 3) := by decide +kernel
theorem dX6_init_76 : decode cX6_init 76 = .ok (.bipush 59, 2) := by decide +kernel
theorem dX6_init_78 : decode cX6_init 78 = .ok (.iconst 3, 1) := by decide +kernel
theorem dX6_init_79 : decode cX6_init 79 = .ok (.iastore, 1) := by decide +kernel
theorem dX6_init_80 : decode cX6_init 80 = .ok (.aload_n 0, 1) := by decide +kernel
theorem dX6_init_81 : decode cX6_init 81 = .ok (.getfield 7, 3) := by decide +kernel
theorem dX6_init_84 : decode cX6_init 84 = .ok (.bipush 60, 2) := by decide +kernel
theorem dX6_init_86 : decode cX6_init 86 = .ok (.iconst 2, 1) := by decide +kernel
theorem dX6_init_87 : decode cX6_init 87 = .ok (.iastore, 1) := by decide +kernel
theorem dX6_init_88 : decode cX6_init 88 = .ok (.aload_n 0, 1) := by decide +kernel
theorem dX6_init_89 : decode cX6_init 89 = .ok (.getfield 7, 3) := by decide +kernel
theorem dX6_init_92 : decode cX6_init 92 = .ok (.bipush 61, 2) := by decide +kernel
theorem dX6_init_94 : decode cX6_init 94 = .ok (.bipush 8, 2) := by decide +kernel
theorem dX6_init_96 : decode cX6_init 96 = .ok (.iastore, 1) := by decide +kernel
theorem dX6_init_97 : decode cX6_init 97 = .ok (.return_, 1) := by decide +kernel
theorem dX6_in_0 : decode cX6_in 0 = .ok (.iload_n 0, 1) := by decide +kernel
theorem dX6_in_1 : decode cX6_in 1 = .ok (.iload_n 1, 1) := by decide +kernel
theorem dX6_in_2 : decode cX6_in 2 = .ok (.if_icmp .lt 12, 3) := by decide +kernel
theorem dX6_in_5 : decode cX6_in 5 = .ok (.iload_n 0, 1) := by decide +kernel
theorem dX6_in_6 : decode cX6_in 6 = .ok (.iload_n 2, 1) := by decide +kernel
theorem dX6_in_7 : decode cX6_in 7 = .ok (.if_icmp .gt 7, 3) := by decide +kernel
theorem dX6_in_10 : decode cX6_in 10 = .ok (.iconst 1, 1) := by decide +kernel
theorem dX6_in_11 : decode cX6_in 11 = .ok (.goto 4, 3) := by decide +kernel
theorem dX6_in_14 : decode cX6_in 14 = .ok (.iconst 0, 1) := by decide +kernel
theorem dX6_in_15 : decode cX6_in 15 = .ok (.ireturn, 1) := by decide +kernel
set_option maxRecDepth 20000 in
theorem ggX6_isYard_X6_in : GoodIn wsX6_isYard wsX6_in := goodIn_r _ [4] (by decide +kernel) (by decide +kernel)
set_option maxRecDepth 20000 in
theorem gX6_isYard_X6_in : GoodIn wsX6_isYard (va_wsS RX6 22 yX6_in wsX6_in) := goodIn_app (goodIn_of _ (by decide +kernel)) ggX6_isYard_X6_in
theorem dX6_isYard_0 : decode cX6_isYard 0 = .ok (.iload_n 0, 1) := by decide +kernel
theorem dX6_isYard_1 : decode cX6_isYard 1 = .ok (.iconst 0, 1) := by decide +kernel
theorem dX6_isYard_2 : decode cX6_isYard 2 = .ok (.bipush 95, 2) := by decide +kernel
theorem dX6_isYard_4 : decode cX6_isYard 4 = .ok (.invokestatic 22, 3) := by decide +kernel
theorem dX6_isYard_7 : decode cX6_isYard 7 = .ok (.ireturn, 1) := by decide +kernel
set_option maxRecDepth 20000 in
theorem ggX6_isHour_X6_in : GoodIn wsX6_isHour wsX6_in := goodIn_r _ [4] (by decide +kernel) (by decide +kernel)
set_option maxRecDepth 20000 in
theorem gX6_isHour_X6_in : GoodIn wsX6_isHour (va_wsS RX6 22 yX6_in wsX6_in) := goodIn_app (goodIn_of _ (by decide +kernel)) ggX6_isHour_X6_in
theorem dX6_isHour_0 : decode cX6_isHour 0 = .ok (.iload_n 0, 1) := by decide +kernel
theorem dX6_isHour_1 : decode cX6_isHour 1 = .ok (.iconst 0, 1) := by decide +kernel
theorem dX6_isHour_2 : decode cX6_isHour 2 = .ok (.bipush 23, 2) := by decide +kernel
theorem dX6_isHour_4 : decode cX6_isHour 4 = .ok (.invokestatic 22, 3) := by decide +kernel
theorem dX6_isHour_7 : decode cX6_isHour 7 = .ok (.ireturn, 1) := by decide +kernel
set_option maxRecDepth 20000 in
theorem ggX6_isMill_X6_in : GoodIn wsX6_isMill wsX6_in := goodIn_r _ [5] (by decide +kernel) (by decide +kernel)
set_option maxRecDepth 20000 in
theorem gX6_isMill_X6_in : GoodIn wsX6_isMill (va_wsS RX6 22 yX6_in wsX6_in) := goodIn_app (goodIn_of _ (by decide +kernel)) ggX6_isMill_X6_in
theorem dX6_isMill_0 : decode cX6_isMill 0 = .ok (.iload_n 2, 1) := by decide +kernel
theorem dX6_isMill_1 : decode cX6_isMill 1 = .ok (.iconst 0, 1) := by decide +kernel
theorem dX6_isMill_2 : decode cX6_isMill 2 = .ok (.aload_n 0, 1) := by decide +kernel
theorem dX6_isMill_3 : decode cX6_isMill 3 = .ok (.getfield 7, 3) := by decide +kernel
theorem dX6_isMill_6 : decode cX6_isMill 6 = .ok (.iload_n 1, 1) := by decide +kernel
theorem dX6_isMill_7 : decode cX6_isMill 7 = .ok (.iconst 0, 1) := by decide +kernel
theorem dX6_isMill_8 : decode cX6_isMill 8 = .ok (.iadd, 1) := by decide +kernel
theorem dX6_isMill_9 : decode cX6_isMill 9 = .ok (.iaload, 1) := by decide +kernel
theorem dX6_isMill_10 : decode cX6_isMill 10 = .ok (.iconst 1, 1) := by decide +kernel
theorem dX6_isMill_11 : decode cX6_isMill 11 = .ok (.isub, 1) := by decide +kernel
theorem dX6_isMill_12 : decode cX6_isMill 12 = .ok (.invokestatic 22, 3) := by decide +kernel
theorem dX6_isMill_15 : decode cX6_isMill 15 = .ok (.ireturn, 1) := by decide +kernel
set_option maxRecDepth 20000 in
theorem ggX6_isHouse_X6_in : GoodIn wsX6_isHouse wsX6_in := goodIn_r _ [5] (by decide +kernel) (by decide +kernel)
set_option maxRecDepth 20000 in
theorem gX6_isHouse_X6_in : GoodIn wsX6_isHouse (va_wsS RX6 22 yX6_in wsX6_in) := goodIn_app (goodIn_of _ (by decide +kernel)) ggX6_isHouse_X6_in
theorem dX6_isHouse_0 : decode cX6_isHouse 0 = .ok (.iload_n 2, 1) := by decide +kernel
theorem dX6_isHouse_1 : decode cX6_isHouse 1 = .ok (.iconst 0, 1) := by decide +kernel
theorem dX6_isHouse_2 : decode cX6_isHouse 2 = .ok (.aload_n 0, 1) := by decide +kernel
theorem dX6_isHouse_3 : decode cX6_isHouse 3 = .ok (.getfield 7, 3) := by decide +kernel
theorem dX6_isHouse_6 : decode cX6_isHouse 6 = .ok (.iload_n 1, 1) := by decide +kernel
theorem dX6_isHouse_7 : decode cX6_isHouse 7 = .ok (.bipush 13, 2) := by decide +kernel
theorem dX6_isHouse_9 : decode cX6_isHouse 9 = .ok (.iadd, 1) := by decide +kernel
theorem dX6_isHouse_10 : decode cX6_isHouse 10 = .ok (.iaload, 1) := by decide +kernel
theorem dX6_isHouse_11 : decode cX6_isHouse 11 = .ok (.iconst 1, 1) := by decide +kernel
theorem dX6_isHouse_12 : decode cX6_isHouse 12 = .ok (.isub, 1) := by decide +kernel
theorem dX6_isHouse_13 : decode cX6_isHouse 13 = .ok (.invokestatic 22, 3) := by decide +kernel
theorem dX6_isHouse_16 : decode cX6_isHouse 16 = .ok (.ireturn, 1) := by decide +kernel
theorem dX6_ofMill_0 : decode cX6_ofMill 0 = .ok (.iload_n 0, 1) := by decide +kernel
theorem dX6_ofMill_1 : decode cX6_ofMill 1 = .ok (.iconst 1, 1) := by decide +kernel
theorem dX6_ofMill_2 : decode cX6_ofMill 2 = .ok (.iadd, 1) := by decide +kernel
theorem dX6_ofMill_3 : decode cX6_ofMill 3 = .ok (.iconst 3, 1) := by decide +kernel
theorem dX6_ofMill_4 : decode cX6_ofMill 4 = .ok (.iload_n 1, 1) := by decide +kernel
theorem dX6_ofMill_5 : decode cX6_ofMill 5 = .ok (.imul, 1) := by decide +kernel
theorem dX6_ofMill_6 : decode cX6_ofMill 6 = .ok (.iadd, 1) := by decide +kernel
theorem dX6_ofMill_7 : decode cX6_ofMill 7 = .ok (.iload_n 2, 1) := by decide +kernel
theorem dX6_ofMill_8 : decode cX6_ofMill 8 = .ok (.iadd, 1) := by decide +kernel
theorem dX6_ofMill_9 : decode cX6_ofMill 9 = .ok (.ireturn, 1) := by decide +kernel
theorem dX6_ofHouse_0 : decode cX6_ofHouse 0 = .ok (.iload_n 0, 1) := by decide +kernel
theorem dX6_ofHouse_1 : decode cX6_ofHouse 1 = .ok (.bipush 14, 2) := by decide +kernel
theorem dX6_ofHouse_3 : decode cX6_ofHouse 3 = .ok (.iadd, 1) := by decide +kernel
theorem dX6_ofHouse_4 : decode cX6_ofHouse 4 = .ok (.iconst 2, 1) := by decide +kernel
theorem dX6_ofHouse_5 : decode cX6_ofHouse 5 = .ok (.iload_n 1, 1) := by decide +kernel
theorem dX6_ofHouse_6 : decode cX6_ofHouse 6 = .ok (.imul, 1) := by decide +kernel
theorem dX6_ofHouse_7 : decode cX6_ofHouse 7 = .ok (.iadd, 1) := by decide +kernel
theorem dX6_ofHouse_8 : decode cX6_ofHouse 8 = .ok (.iload_n 2, 1) := by decide +kernel
theorem dX6_ofHouse_9 : decode cX6_ofHouse 9 = .ok (.iadd, 1) := by decide +kernel
theorem dX6_ofHouse_10 : decode cX6_ofHouse 10 = .ok (.ireturn, 1) := by decide +kernel
theorem dX6_stands_0 : decode cX6_stands 0 = .ok (.iload_n 0, 1) := by decide +kernel
theorem dX6_stands_1 : decode cX6_stands 1 = .ok (.bipush 68, 2) := by decide +kernel
theorem dX6_stands_3 : decode cX6_stands 3 = .ok (.iadd, 1) := by decide +kernel
theorem dX6_stands_4 : decode cX6_stands 4 = .ok (.bipush 8, 2) := by decide +kernel
theorem dX6_stands_6 : decode cX6_stands 6 = .ok (.iload_n 1, 1) := by decide +kernel
theorem dX6_stands_7 : decode cX6_stands 7 = .ok (.imul, 1) := by decide +kernel
theorem dX6_stands_8 : decode cX6_stands 8 = .ok (.iadd, 1) := by decide +kernel
theorem dX6_stands_9 : decode cX6_stands 9 = .ok (.iconst 2, 1) := by decide +kernel
theorem dX6_stands_10 : decode cX6_stands 10 = .ok (.iload_n 2, 1) := by decide +kernel
theorem dX6_stands_11 : decode cX6_stands 11 = .ok (.imul, 1) := by decide +kernel
theorem dX6_stands_12 : decode cX6_stands 12 = .ok (.iadd, 1) := by decide +kernel
theorem dX6_stands_13 : decode cX6_stands 13 = .ok (.iload_n 3, 1) := by decide +kernel
theorem dX6_stands_14 : decode cX6_stands 14 = .ok (.iadd, 1) := by decide +kernel
theorem dX6_stands_15 : decode cX6_stands 15 = .ok (.ireturn, 1) := by decide +kernel
theorem dX6_ones_0 : decode cX6_ones 0 = .ok (.iconst 0, 1) := by decide +kernel
theorem dX6_ones_1 : decode cX6_ones 1 = .ok (.istore_n 1, 1) := by decide +kernel
theorem dX6_ones_2 : decode cX6_ones 2 = .ok (.iconst 0, 1) := by decide +kernel
theorem dX6_ones_3 : decode cX6_ones 3 = .ok (.istore_n 2, 1) := by decide +kernel
theorem dX6_ones_4 : decode cX6_ones 4 = .ok (.iload_n 2, 1) := by decide +kernel
theorem dX6_ones_5 : decode cX6_ones 5 = .ok (.bipush 24, 2) := by decide +kernel
theorem dX6_ones_7 : decode cX6_ones 7 = .ok (.if_icmp .ge 17, 3) := by decide +kernel
theorem dX6_ones_10 : decode cX6_ones 10 = .ok (.iload_n 1, 1) := by decide +kernel
theorem dX6_ones_11 : decode cX6_ones 11 = .ok (.iload_n 0, 1) := by decide +kernel
theorem dX6_ones_12 : decode cX6_ones 12 = .ok (.iload_n 2, 1) := by decide +kernel
theorem dX6_ones_13 : decode cX6_ones 13 = .ok (.ishr, 1) := by decide +kernel
theorem dX6_ones_14 : decode cX6_ones 14 = .ok (.iconst 1, 1) := by decide +kernel
theorem dX6_ones_15 : decode cX6_ones 15 = .ok (.iand, 1) := by decide +kernel
theorem dX6_ones_16 : decode cX6_ones 16 = .ok (.iadd, 1) := by decide +kernel
theorem dX6_ones_17 : decode cX6_ones 17 = .ok (.istore_n 1, 1) := by decide +kernel
theorem dX6_ones_18 : decode cX6_ones 18 = .ok (.iinc 2 1, 3) := by decide +kernel
theorem dX6_ones_21 : decode cX6_ones 21 = .ok (.goto (-17), 3) := by decide +kernel
theorem dX6_ones_24 : decode cX6_ones 24 = .ok (.iload_n 1, 1) := by decide +kernel
theorem dX6_ones_25 : decode cX6_ones 25 = .ok (.ireturn, 1) := by decide +kernel
theorem dX6_copies_0 : decode cX6_copies 0 = .ok (.iconst 0, 1) := by decide +kernel
theorem dX6_copies_1 : decode cX6_copies 1 = .ok (.istore_n 1, 1) := by decide +kernel
theorem dX6_copies_2 : decode cX6_copies 2 = .ok (.iload_n 1, 1) := by decide +kernel
theorem dX6_copies_3 : decode cX6_copies 3 = .ok (.sipush 148, 3) := by decide +kernel
theorem dX6_copies_6 : decode cX6_copies 6 = .ok (.if_icmp .ge 25, 3) := by decide +kernel
theorem dX6_copies_9 : decode cX6_copies 9 = .ok (.aload_n 0, 1) := by decide +kernel
theorem dX6_copies_10 : decode cX6_copies 10 = .ok (.getfield 7, 3) := by decide +kernel
theorem dX6_copies_13 : decode cX6_copies 13 = .ok (.sipush 148, 3) := by decide +kernel
theorem dX6_copies_16 : decode cX6_copies 16 = .ok (.iload_n 1, 1) := by decide +kernel
theorem dX6_copies_17 : decode cX6_copies 17 = .ok (.iadd, 1) := by decide +kernel
theorem dX6_copies_18 : decode cX6_copies 18 = .ok (.aload_n 0, 1) := by decide +kernel
theorem dX6_copies_19 : decode cX6_copies 19 = .ok (.getfield 7, 3) := by decide +kernel
theorem dX6_copies_22 : decode cX6_copies 22 = .ok (.iload_n 1, 1) := by decide +kernel
theorem dX6_copies_23 : decode cX6_copies 23 = .ok (.iaload, 1) := by decide +kernel
theorem dX6_copies_24 : decode cX6_copies 24 = .ok (.iastore, 1) := by decide +kernel
theorem dX6_copies_25 : decode cX6_copies 25 = .ok (.iinc 1 1, 3) := by decide +kernel
theorem dX6_copies_28 : decode cX6_copies 28 = .ok (.goto (-26), 3) := by decide +kernel
theorem dX6_copies_31 : decode cX6_copies 31 = .ok (.return_, 1) := by decide +kernel
theorem dX6_remembers_0 : decode cX6_remembers 0 = .ok (.aload_n 0, 1) := by decide +kernel
theorem dX6_remembers_1 : decode cX6_remembers 1 = .ok (.getfield 26, 3) := by decide +kernel
theorem dX6_remembers_4 : decode cX6_remembers 4 = .ok (.iconst 4, 1) := by decide +kernel
theorem dX6_remembers_5 : decode cX6_remembers 5 = .ok (.if_icmp .ne 44, 3) := by decide +kernel
theorem dX6_remembers_8 : decode cX6_remembers 8 = .ok (.iconst 0, 1) := by decide +kernel
theorem dX6_remembers_9 : decode cX6_remembers 9 = .ok (.istore_n 1, 1) := by decide +kernel
theorem dX6_remembers_10 : decode cX6_remembers 10 = .ok (.iload_n 1, 1) := by decide +kernel
theorem dX6_remembers_11 : decode cX6_remembers 11 = .ok (.sipush 444, 3) := by decide +kernel
theorem dX6_remembers_14 : decode cX6_remembers 14 = .ok (.if_icmp .ge 25, 3) := by decide +kernel
theorem dX6_remembers_17 : decode cX6_remembers 17 = .ok (.aload_n 0, 1) := by decide +kernel
theorem dX6_remembers_18 : decode cX6_remembers 18 = .ok (.getfield 13, 3) := by decide +kernel
theorem dX6_remembers_21 : decode cX6_remembers 21 = .ok (.iload_n 1, 1) := by decide +kernel
theorem dX6_remembers_22 : decode cX6_remembers 22 = .ok (.aload_n 0, 1) := by decide +kernel
theorem dX6_remembers_23 : decode cX6_remembers 23 = .ok (.getfield 13, 3) := by decide +kernel
theorem dX6_remembers_26 : decode cX6_remembers 26 = .ok (.sipush 148, 3) := by decide +kernel
theorem dX6_remembers_29 : decode cX6_remembers 29 = .ok (.iload_n 1, 1) := by decide +kernel
theorem dX6_remembers_30 : decode cX6_remembers 30 = .ok (.iadd, 1) := by decide +kernel
theorem dX6_remembers_31 : decode cX6_remembers 31 = .ok (.iaload, 1) := by decide +kernel
theorem dX6_remembers_32 : decode cX6_remembers 32 = .ok (.iastore, 1) := by decide +kernel
theorem dX6_remembers_33 : decode cX6_remembers 33 = .ok (.iinc 1 1, 3) := by decide +kernel
theorem dX6_remembers_36 : decode cX6_remembers 36 = .ok (.goto (-26), 3) := by decide +kernel
theorem dX6_remembers_39 : decode cX6_remembers 39 = .ok (.aload_n 0, 1) := by decide +kernel
theorem dX6_remembers_40 : decode cX6_remembers 40 = .ok (.dup, 1) := by decide +kernel
theorem dX6_remembers_41 : decode cX6_remembers 41 = .ok (.getfield 26, 3) := by decide +kernel
theorem dX6_remembers_44 : decode cX6_remembers 44 = .ok (.iconst 1, 1) := by decide +kernel
theorem dX6_remembers_45 : decode cX6_remembers 45 = .ok (.isub, 1) := by decide +kernel
theorem dX6_remembers_46 : decode cX6_remembers 46 = .ok (.putfield 26, 3) := by decide +kernel
theorem dX6_remembers_49 : decode cX6_remembers 49 = .ok (.iconst 0, 1) := by decide +kernel
theorem dX6_remembers_50 : decode cX6_remembers 50 = .ok (.istore_n 1, 1) := by decide +kernel
theorem dX6_remembers_51 : decode cX6_remembers 51 = .ok (.iload_n 1, 1) := by decide +kernel
theorem dX6_remembers_52 : decode cX6_remembers 52 = .ok (.sipush 148, 3) := by decide +kernel
theorem dX6_remembers_55 : decode cX6_remembers 55 = .ok (.if_icmp .ge 30, 3) := by decide +kernel
theorem dX6_remembers_58 : decode cX6_remembers 58 = .ok (.aload_n 0, 1) := by decide +kernel
theorem dX6_remembers_59 : decode cX6_remembers 59 = .ok (.getfield 13, 3) := by decide +kernel
theorem dX6_remembers_62 : decode cX6_remembers 62 = .ok (.sipush 148, 3) := by decide +kernel
theorem dX6_remembers_65 : decode cX6_remembers 65 = .ok (.aload_n 0, 1) := by decide +kernel
theorem dX6_remembers_66 : decode cX6_remembers 66 = .ok (.getfield 26, 3) := by decide +kernel
theorem dX6_remembers_69 : decode cX6_remembers 69 = .ok (.imul, 1) := by decide +kernel
theorem dX6_remembers_70 : decode cX6_remembers 70 = .ok (.iload_n 1, 1) := by decide +kernel
theorem dX6_remembers_71 : decode cX6_remembers 71 = .ok (.iadd, 1) := by decide +kernel
theorem dX6_remembers_72 : decode cX6_remembers 72 = .ok (.aload_n 0, 1) := by decide +kernel
theorem dX6_remembers_73 : decode cX6_remembers 73 = .ok (.getfield 7, 3) := by decide +kernel
theorem dX6_remembers_76 : decode cX6_remembers 76 = .ok (.iload_n 1, 1) := by decide +kernel
theorem dX6_remembers_77 : decode cX6_remembers 77 = .ok (.iaload, 1) := by decide +kernel
theorem dX6_remembers_78 : decode cX6_remembers 78 = .ok (.iastore, 1) := by decide +kernel
theorem dX6_remembers_79 : decode cX6_remembers 79 = .ok (.iinc 1 1, 3) := by decide +kernel
theorem dX6_remembers_82 : decode cX6_remembers 82 = .ok (.goto (-31), 3) := by decide +kernel
theorem dX6_remembers_85 : decode cX6_remembers 85 = .ok (.aload_n 0, 1) := by decide +kernel
theorem dX6_remembers_86 : decode cX6_remembers 86 = .ok (.dup, 1) := by decide +kernel
theorem dX6_remembers_87 : decode cX6_remembers 87 = .ok (.getfield 26, 3) := by decide +kernel
theorem dX6_remembers_90 : decode cX6_remembers 90 = .ok (.iconst 1, 1) := by decide +kernel
theorem dX6_remembers_91 : decode cX6_remembers 91 = .ok (.iadd, 1) := by decide +kernel
theorem dX6_remembers_92 : decode cX6_remembers 92 = .ok (.putfield 26, 3) := by decide +kernel
theorem dX6_remembers_95 : decode cX6_remembers 95 = .ok (.return_, 1) := by decide +kernel
set_option maxRecDepth 20000 in
theorem ggX6_takes_X6_remembers : GoodIn wsX6_takes wsX6_remembers := goodIn_r _ [6, 7, 8, 1, 9, 10, 11, 12, 13, 14, 15] (by decide +kernel) (by decide +kernel)
set_option maxRecDepth 20000 in
theorem gX6_takes_X6_remembers : GoodIn wsX6_takes (wsV RX6 30 RX6 yX6_remembers wsX6_remembers) := goodIn_app (goodIn_of _ (by decide +kernel)) ggX6_takes_X6_remembers
theorem dX6_takes_0 : decode cX6_takes 0 = .ok (.aload_n 0, 1) := by decide +kernel
theorem dX6_takes_1 : decode cX6_takes 1 = .ok (.invokevirtual 30, 3) := by decide +kernel
theorem dX6_takes_4 : decode cX6_takes 4 = .ok (.iconst 0, 1) := by decide +kernel
theorem dX6_takes_5 : decode cX6_takes 5 = .ok (.istore_n 1, 1) := by decide +kernel
theorem dX6_takes_6 : decode cX6_takes 6 = .ok (.iload_n 1, 1) := by decide +kernel
theorem dX6_takes_7 : decode cX6_takes 7 = .ok (.sipush 148, 3) := by decide +kernel
theorem dX6_takes_10 : decode cX6_takes 10 = .ok (.if_icmp .ge 25, 3) := by decide +kernel
theorem dX6_takes_13 : decode cX6_takes 13 = .ok (.aload_n 0, 1) := by decide +kernel
theorem dX6_takes_14 : decode cX6_takes 14 = .ok (.getfield 7, 3) := by decide +kernel
theorem dX6_takes_17 : decode cX6_takes 17 = .ok (.iload_n 1, 1) := by decide +kernel
theorem dX6_takes_18 : decode cX6_takes 18 = .ok (.aload_n 0, 1) := by decide +kernel
theorem dX6_takes_19 : decode cX6_takes 19 = .ok (.getfield 7, 3) := by decide +kernel
theorem dX6_takes_22 : decode cX6_takes 22 = .ok (.sipush 148, 3) := by decide +kernel
theorem dX6_takes_25 : decode cX6_takes 25 = .ok (.iload_n 1, 1) := by decide +kernel
theorem dX6_takes_26 : decode cX6_takes 26 = .ok (.iadd, 1) := by decide +kernel
theorem dX6_takes_27 : decode cX6_takes 27 = .ok (.iaload, 1) := by decide +kernel
theorem dX6_takes_28 : decode cX6_takes 28 = .ok (.iastore, 1) := by decide +kernel
theorem dX6_takes_29 : decode cX6_takes 29 = .ok (.iinc 1 1, 3) := by decide +kernel
theorem dX6_takes_32 : decode cX6_takes 32 = .ok (.goto (-26), 3) := by decide +kernel
theorem dX6_takes_35 : decode cX6_takes 35 = .ok (.return_, 1) := by decide +kernel
set_option maxRecDepth 20000 in
theorem ggX6_acts_X6_takes : GoodIn wsX6_acts wsX6_takes := goodIn_r _ [5, 6, 7, 8, 9, 4, 10, 11, 12, 13, 14, 15, 16, 17, 18, 19] (by decide +kernel) (by decide +kernel)
set_option maxRecDepth 20000 in
theorem gX6_acts_X6_takes : GoodIn wsX6_acts (wsV RX6 33 RX6 yX6_takes wsX6_takes) := goodIn_app (goodIn_of _ (by decide +kernel)) ggX6_acts_X6_takes
theorem dX6_acts_0 : decode cX6_acts 0 = .ok (.iload_n 1, 1) := by decide +kernel
theorem dX6_acts_1 : decode cX6_acts 1 = .ok (.ifCond .lt 7, 3) := by decide +kernel
theorem dX6_acts_4 : decode cX6_acts 4 = .ok (.aload_n 0, 1) := by decide +kernel
theorem dX6_acts_5 : decode cX6_acts 5 = .ok (.invokevirtual 33, 3) := by decide +kernel
theorem dX6_acts_8 : decode cX6_acts 8 = .ok (.iload_n 1, 1) := by decide +kernel
theorem dX6_acts_9 : decode cX6_acts 9 = .ok (.ireturn, 1) := by decide +kernel
set_option maxRecDepth 20000 in
theorem ggX6_isTied_X6_ofMill : GoodIn wsX6_isTied wsX6_ofMill := goodIn_r _ [5] (by decide +kernel) (by decide +kernel)
set_option maxRecDepth 20000 in
theorem gX6_isTied_X6_ofMill : GoodIn wsX6_isTied (va_wsS RX6 36 yX6_ofMill wsX6_ofMill) := goodIn_app (goodIn_of _ (by decide +kernel)) ggX6_isTied_X6_ofMill
theorem dX6_isTied_0 : decode cX6_isTied 0 = .ok (.aload_n 0, 1) := by decide +kernel
theorem dX6_isTied_1 : decode cX6_isTied 1 = .ok (.getfield 7, 3) := by decide +kernel
theorem dX6_isTied_4 : decode cX6_isTied 4 = .ok (.iload_n 1, 1) := by decide +kernel
theorem dX6_isTied_5 : decode cX6_isTied 5 = .ok (.iload_n 2, 1) := by decide +kernel
theorem dX6_isTied_6 : decode cX6_isTied 6 = .ok (.iconst 2, 1) := by decide +kernel
theorem dX6_isTied_7 : decode cX6_isTied 7 = .ok (.invokestatic 36, 3) := by decide +kernel
theorem dX6_isTied_10 : decode cX6_isTied 10 = .ok (.iaload, 1) := by decide +kernel
theorem dX6_isTied_11 : decode cX6_isTied 11 = .ok (.iload_n 3, 1) := by decide +kernel
theorem dX6_isTied_12 : decode cX6_isTied 12 = .ok (.ishr, 1) := by decide +kernel
theorem dX6_isTied_13 : decode cX6_isTied 13 = .ok (.iconst 1, 1) := by decide +kernel
theorem dX6_isTied_14 : decode cX6_isTied 14 = .ok (.iand, 1) := by decide +kernel
theorem dX6_isTied_15 : decode cX6_isTied 15 = .ok (.iconst 1, 1) := by decide +kernel
theorem dX6_isTied_16 : decode cX6_isTied 16 = .ok (.if_icmp .ne 7, 3) := by decide +kernel
theorem dX6_isTied_19 : decode cX6_isTied 19 = .ok (.iconst 1, 1) := by decide +kernel
theorem dX6_isTied_20 : decode cX6_isTied 20 = .ok (.goto 4, 3) := by decide +kernel
theorem dX6_isTied_23 : decode cX6_isTied 23 = .ok (.iconst 0, 1) := by decide +kernel
theorem dX6_isTied_24 : decode cX6_isTied 24 = .ok (.ireturn, 1) := by decide +kernel
set_option maxRecDepth 20000 in
theorem ggX6_turns_X6_isTied : GoodIn wsX6_turns wsX6_isTied := goodIn_r _ [6, 1, 7, 8, 5, 9, 10, 11, 12, 13, 14, 15, 16] (by decide +kernel) (by decide +kernel)
set_option maxRecDepth 20000 in
theorem gX6_turns_X6_isTied : GoodIn wsX6_turns (wsV RX6 40 RX6 yX6_isTied wsX6_isTied) := goodIn_app (goodIn_of _ (by decide +kernel)) ggX6_turns_X6_isTied
theorem dX6_turns_0 : decode cX6_turns 0 = .ok (.aload_n 0, 1) := by decide +kernel
theorem dX6_turns_1 : decode cX6_turns 1 = .ok (.iload_n 1, 1) := by decide +kernel
theorem dX6_turns_2 : decode cX6_turns 2 = .ok (.iload_n 2, 1) := by decide +kernel
theorem dX6_turns_3 : decode cX6_turns 3 = .ok (.iload_n 3, 1) := by decide +kernel
theorem dX6_turns_4 : decode cX6_turns 4 = .ok (.invokevirtual 40, 3) := by decide +kernel
theorem dX6_turns_7 : decode cX6_turns 7 = .ok (.ifCond .ne 22, 3) := by decide +kernel
theorem dX6_turns_10 : decode cX6_turns 10 = .ok (.aload_n 0, 1) := by decide +kernel
theorem dX6_turns_11 : decode cX6_turns 11 = .ok (.getfield 7, 3) := by decide +kernel
theorem dX6_turns_14 : decode cX6_turns 14 = .ok (.iload_n 1, 1) := by decide +kernel
theorem dX6_turns_15 : decode cX6_turns 15 = .ok (.bipush 34, 2) := by decide +kernel
theorem dX6_turns_17 : decode cX6_turns 17 = .ok (.iadd, 1) := by decide +kernel
theorem dX6_turns_18 : decode cX6_turns 18 = .ok (.iload_n 3, 1) := by decide +kernel
theorem dX6_turns_19 : decode cX6_turns 19 = .ok (.iadd, 1) := by decide +kernel
theorem dX6_turns_20 : decode cX6_turns 20 = .ok (.iaload, 1) := by decide +kernel
theorem dX6_turns_21 : decode cX6_turns 21 = .ok (.iconst 2, 1) := by decide +kernel
theorem dX6_turns_22 : decode cX6_turns 22 = .ok (.if_icmp .lt 7, 3) := by decide +kernel
theorem dX6_turns_25 : decode cX6_turns 25 = .ok (.iconst 1, 1) := by decide +kernel
theorem dX6_turns_26 : decode cX6_turns 26 = .ok (.goto 4, 3) := by decide +kernel
theorem dX6_turns_29 : decode cX6_turns 29 = .ok (.iconst 0, 1) := by decide +kernel
theorem dX6_turns_30 : decode cX6_turns 30 = .ok (.ireturn, 1) := by decide +kernel
theorem dX6_apart_0 : decode cX6_apart 0 = .ok (.iload_n 0, 1) := by decide +kernel
theorem dX6_apart_1 : decode cX6_apart 1 = .ok (.bipush 12, 2) := by decide +kernel
theorem dX6_apart_3 : decode cX6_apart 3 = .ok (.irem, 1) := by decide +kernel
theorem dX6_apart_4 : decode cX6_apart 4 = .ok (.iload_n 1, 1) := by decide +kernel
theorem dX6_apart_5 : decode cX6_apart 5 = .ok (.bipush 12, 2) := by decide +kernel
theorem dX6_apart_7 : decode cX6_apart 7 = .ok (.irem, 1) := by decide +kernel
theorem dX6_apart_8 : decode cX6_apart 8 = .ok (.isub, 1) := by decide +kernel
theorem dX6_apart_9 : decode cX6_apart 9 = .ok (.istore_n 2, 1) := by decide +kernel
theorem dX6_apart_10 : decode cX6_apart 10 = .ok (.iload_n 0, 1) := by decide +kernel
theorem dX6_apart_11 : decode cX6_apart 11 = .ok (.bipush 12, 2) := by decide +kernel
theorem dX6_apart_13 : decode cX6_apart 13 = .ok (.idiv, 1) := by decide +kernel
theorem dX6_apart_14 : decode cX6_apart 14 = .ok (.iload_n 1, 1) := by decide +kernel
theorem dX6_apart_15 : decode cX6_apart 15 = .ok (.bipush 12, 2) := by decide +kernel
theorem dX6_apart_17 : decode cX6_apart 17 = .ok (.idiv, 1) := by decide +kernel
theorem dX6_apart_18 : decode cX6_apart 18 = .ok (.isub, 1) := by decide +kernel
theorem dX6_apart_19 : decode cX6_apart 19 = .ok (.istore_n 3, 1) := by decide +kernel
theorem dX6_apart_20 : decode cX6_apart 20 = .ok (.iload_n 2, 1) := by decide +kernel
theorem dX6_apart_21 : decode cX6_apart 21 = .ok (.ifCond .ge 8, 3) := by decide +kernel
theorem dX6_apart_24 : decode cX6_apart 24 = .ok (.iload_n 2, 1) := by decide +kernel
theorem dX6_apart_25 : decode cX6_apart 25 = .ok (.ineg, 1) := by decide +kernel
theorem dX6_apart_26 : decode cX6_apart 26 = .ok (.goto 4, 3) := by decide +kernel
theorem dX6_apart_29 : decode cX6_apart 29 = .ok (.iload_n 2, 1) := by decide +kernel
theorem dX6_apart_30 : decode cX6_apart 30 = .ok (.istore 4, 2) := by decide +kernel
theorem dX6_apart_32 : decode cX6_apart 32 = .ok (.iload_n 3, 1) := by decide +kernel
theorem dX6_apart_33 : decode cX6_apart 33 = .ok (.ifCond .ge 8, 3) := by decide +kernel
theorem dX6_apart_36 : decode cX6_apart 36 = .ok (.iload_n 3, 1) := by decide +kernel
theorem dX6_apart_37 : decode cX6_apart 37 = .ok (.ineg, 1) := by decide +kernel
theorem dX6_apart_38 : decode cX6_apart 38 = .ok (.goto 4, 3) := by decide +kernel
theorem dX6_apart_41 : decode cX6_apart 41 = .ok (.iload_n 3, 1) := by decide +kernel
theorem dX6_apart_42 : decode cX6_apart 42 = .ok (.istore 5, 2) := by decide +kernel
theorem dX6_apart_44 : decode cX6_apart 44 = .ok (.iload 4, 2) := by decide +kernel
theorem dX6_apart_46 : decode cX6_apart 46 = .ok (.iload 5, 2) := by decide +kernel
theorem dX6_apart_48 : decode cX6_apart 48 = .ok (.if_icmp .le 8, 3) := by decide +kernel
theorem dX6_apart_51 : decode cX6_apart 51 = .ok (.iload 4, 2) := by decide +kernel
theorem dX6_apart_53 : decode cX6_apart 53 = .ok (.goto 5, 3) := by decide +kernel
theorem dX6_apart_56 : decode cX6_apart 56 = .ok (.iload 5, 2) := by decide +kernel
theorem dX6_apart_58 : decode cX6_apart 58 = .ok (.ireturn, 1) := by decide +kernel
set_option maxRecDepth 20000 in
theorem ggX6_loud_X6_ofMill : GoodIn wsX6_loud wsX6_ofMill := goodIn_r _ [5] (by decide +kernel) (by decide +kernel)
set_option maxRecDepth 20000 in
theorem gX6_loud_X6_ofMill : GoodIn wsX6_loud (va_wsS RX6 36 yX6_ofMill wsX6_ofMill) := goodIn_app (goodIn_of _ (by decide +kernel)) ggX6_loud_X6_ofMill
set_option maxRecDepth 20000 in
theorem ggX6_loud_X6_apart : GoodIn wsX6_loud wsX6_apart := goodIn_r _ [8] (by decide +kernel) (by decide +kernel)
set_option maxRecDepth 20000 in
theorem gX6_loud_X6_apart : GoodIn wsX6_loud (va_wsS RX6 43 yX6_apart wsX6_apart) := goodIn_app (goodIn_of _ (by decide +kernel)) ggX6_loud_X6_apart
theorem dX6_loud_0 : decode cX6_loud 0 = .ok (.iconst 2, 1) := by decide +kernel
theorem dX6_loud_1 : decode cX6_loud 1 = .ok (.aload_n 0, 1) := by decide +kernel
theorem dX6_loud_2 : decode cX6_loud 2 = .ok (.getfield 7, 3) := by decide +kernel
theorem dX6_loud_5 : decode cX6_loud 5 = .ok (.iload_n 1, 1) := by decide +kernel
theorem dX6_loud_6 : decode cX6_loud 6 = .ok (.bipush 34, 2) := by decide +kernel
theorem dX6_loud_8 : decode cX6_loud 8 = .ok (.iadd, 1) := by decide +kernel
theorem dX6_loud_9 : decode cX6_loud 9 = .ok (.iload 4, 2) := by decide +kernel
theorem dX6_loud_11 : decode cX6_loud 11 = .ok (.iadd, 1) := by decide +kernel
theorem dX6_loud_12 : decode cX6_loud 12 = .ok (.iaload, 1) := by decide +kernel
theorem dX6_loud_13 : decode cX6_loud 13 = .ok (.imul, 1) := by decide +kernel
theorem dX6_loud_14 : decode cX6_loud 14 = .ok (.aload_n 0, 1) := by decide +kernel
theorem dX6_loud_15 : decode cX6_loud 15 = .ok (.getfield 7, 3) := by decide +kernel
theorem dX6_loud_18 : decode cX6_loud 18 = .ok (.iload_n 1, 1) := by decide +kernel
theorem dX6_loud_19 : decode cX6_loud 19 = .ok (.iload_n 2, 1) := by decide +kernel
theorem dX6_loud_20 : decode cX6_loud 20 = .ok (.iconst 1, 1) := by decide +kernel
theorem dX6_loud_21 : decode cX6_loud 21 = .ok (.invokestatic 36, 3) := by decide +kernel
theorem dX6_loud_24 : decode cX6_loud 24 = .ok (.iaload, 1) := by decide +kernel
theorem dX6_loud_25 : decode cX6_loud 25 = .ok (.iload_n 3, 1) := by decide +kernel
theorem dX6_loud_26 : decode cX6_loud 26 = .ok (.invokestatic 43, 3) := by decide +kernel
theorem dX6_loud_29 : decode cX6_loud 29 = .ok (.isub, 1) := by decide +kernel
theorem dX6_loud_30 : decode cX6_loud 30 = .ok (.istore 5, 2) := by decide +kernel
theorem dX6_loud_32 : decode cX6_loud 32 = .ok (.iload 5, 2) := by decide +kernel
theorem dX6_loud_34 : decode cX6_loud 34 = .ok (.ifCond .ge 7, 3) := by decide +kernel
theorem dX6_loud_37 : decode cX6_loud 37 = .ok (.iconst 0, 1) := by decide +kernel
theorem dX6_loud_38 : decode cX6_loud 38 = .ok (.goto 5, 3) := by decide +kernel
theorem dX6_loud_41 : decode cX6_loud 41 = .ok (.iload 5, 2) := by decide +kernel
theorem dX6_loud_43 : decode cX6_loud 43 = .ok (.ireturn, 1) := by decide +kernel
theorem dX6_borne_0 : decode cX6_borne 0 = .ok (.iload_n 2, 1) := by decide +kernel
theorem dX6_borne_1 : decode cX6_borne 1 = .ok (.bipush 22, 2) := by decide +kernel
theorem dX6_borne_3 : decode cX6_borne 3 = .ok (.if_icmp .ge 8, 3) := by decide +kernel
theorem dX6_borne_6 : decode cX6_borne 6 = .ok (.iload_n 2, 1) := by decide +kernel
theorem dX6_borne_7 : decode cX6_borne 7 = .ok (.iconst 5, 1) := by decide +kernel
theorem dX6_borne_8 : decode cX6_borne 8 = .ok (.if_icmp .gt 17, 3) := by decide +kernel
theorem dX6_borne_11 : decode cX6_borne 11 = .ok (.aload_n 0, 1) := by decide +kernel
theorem dX6_borne_12 : decode cX6_borne 12 = .ok (.getfield 7, 3) := by decide +kernel
theorem dX6_borne_15 : decode cX6_borne 15 = .ok (.iload_n 1, 1) := by decide +kernel
theorem dX6_borne_16 : decode cX6_borne 16 = .ok (.bipush 58, 2) := by decide +kernel
theorem dX6_borne_18 : decode cX6_borne 18 = .ok (.iadd, 1) := by decide +kernel
theorem dX6_borne_19 : decode cX6_borne 19 = .ok (.iconst 1, 1) := by decide +kernel
theorem dX6_borne_20 : decode cX6_borne 20 = .ok (.iadd, 1) := by decide +kernel
theorem dX6_borne_21 : decode cX6_borne 21 = .ok (.iaload, 1) := by decide +kernel
theorem dX6_borne_22 : decode cX6_borne 22 = .ok (.goto 12, 3) := by decide +kernel
theorem dX6_borne_25 : decode cX6_borne 25 = .ok (.aload_n 0, 1) := by decide +kernel
theorem dX6_borne_26 : decode cX6_borne 26 = .ok (.getfield 7, 3) := by decide +kernel
theorem dX6_borne_29 : decode cX6_borne 29 = .ok (.iload_n 1, 1) := by decide +kernel
theorem dX6_borne_30 : decode cX6_borne 30 = .ok (.bipush 58, 2) := by decide +kernel
theorem dX6_borne_32 : decode cX6_borne 32 = .ok (.iadd, 1) := by decide +kernel
theorem dX6_borne_33 : decode cX6_borne 33 = .ok (.iaload, 1) := by decide +kernel
theorem dX6_borne_34 : decode cX6_borne 34 = .ok (.ireturn, 1) := by decide +kernel
set_option maxRecDepth 20000 in
theorem ggX6_isSun_X6_in : GoodIn wsX6_isSun wsX6_in := goodIn_r _ [4] (by decide +kernel) (by decide +kernel)
set_option maxRecDepth 20000 in
theorem gX6_isSun_X6_in : GoodIn wsX6_isSun (va_wsS RX6 22 yX6_in wsX6_in) := goodIn_app (goodIn_of _ (by decide +kernel)) ggX6_isSun_X6_in
theorem dX6_isSun_0 : decode cX6_isSun 0 = .ok (.iload_n 0, 1) := by decide +kernel
theorem dX6_isSun_1 : decode cX6_isSun 1 = .ok (.bipush 6, 2) := by decide +kernel
theorem dX6_isSun_3 : decode cX6_isSun 3 = .ok (.bipush 18, 2) := by decide +kernel
theorem dX6_isSun_5 : decode cX6_isSun 5 = .ok (.invokestatic 22, 3) := by decide +kernel
theorem dX6_isSun_8 : decode cX6_isSun 8 = .ok (.ireturn, 1) := by decide +kernel
theorem dX6_toEast_0 : decode cX6_toEast 0 = .ok (.iload_n 0, 1) := by decide +kernel
theorem dX6_toEast_1 : decode cX6_toEast 1 = .ok (.bipush 12, 2) := by decide +kernel
theorem dX6_toEast_3 : decode cX6_toEast 3 = .ok (.if_icmp .ge 7, 3) := by decide +kernel
theorem dX6_toEast_6 : decode cX6_toEast 6 = .ok (.iconst (-1), 1) := by decide +kernel
theorem dX6_toEast_7 : decode cX6_toEast 7 = .ok (.goto 14, 3) := by decide +kernel
theorem dX6_toEast_10 : decode cX6_toEast 10 = .ok (.iload_n 0, 1) := by decide +kernel
theorem dX6_toEast_11 : decode cX6_toEast 11 = .ok (.bipush 12, 2) := by decide +kernel
theorem dX6_toEast_13 : decode cX6_toEast 13 = .ok (.if_icmp .le 7, 3) := by decide +kernel
theorem dX6_toEast_16 : decode cX6_toEast 16 = .ok (.iconst 1, 1) := by decide +kernel
theorem dX6_toEast_17 : decode cX6_toEast 17 = .ok (.goto 4, 3) := by decide +kernel
theorem dX6_toEast_20 : decode cX6_toEast 20 = .ok (.iconst 0, 1) := by decide +kernel
theorem dX6_toEast_21 : decode cX6_toEast 21 = .ok (.ireturn, 1) := by decide +kernel
set_option maxRecDepth 20000 in
theorem ggX6_toSouth_X6_in : GoodIn wsX6_toSouth wsX6_in := goodIn_r _ [4] (by decide +kernel) (by decide +kernel)
set_option maxRecDepth 20000 in
theorem gX6_toSouth_X6_in : GoodIn wsX6_toSouth (va_wsS RX6 22 yX6_in wsX6_in) := goodIn_app (goodIn_of _ (by decide +kernel)) ggX6_toSouth_X6_in
theorem dX6_toSouth_0 : decode cX6_toSouth 0 = .ok (.iload_n 0, 1) := by decide +kernel
theorem dX6_toSouth_1 : decode cX6_toSouth 1 = .ok (.bipush 10, 2) := by decide +kernel
theorem dX6_toSouth_3 : decode cX6_toSouth 3 = .ok (.bipush 14, 2) := by decide +kernel
theorem dX6_toSouth_5 : decode cX6_toSouth 5 = .ok (.invokestatic 22, 3) := by decide +kernel
theorem dX6_toSouth_8 : decode cX6_toSouth 8 = .ok (.ifCond .eq 7, 3) := by decide +kernel
theorem dX6_toSouth_11 : decode cX6_toSouth 11 = .ok (.iconst (-1), 1) := by decide +kernel
theorem dX6_toSouth_12 : decode cX6_toSouth 12 = .ok (.goto 4, 3) := by decide +kernel
theorem dX6_toSouth_15 : decode cX6_toSouth 15 = .ok (.iconst 0, 1) := by decide +kernel
theorem dX6_toSouth_16 : decode cX6_toSouth 16 = .ok (.ireturn, 1) := by decide +kernel
set_option maxRecDepth 20000 in
theorem ggX6_reach_X6_isSun : GoodIn wsX6_reach wsX6_isSun := goodIn_r _ [5, 6, 7, 4, 8] (by decide +kernel) (by decide +kernel)
set_option maxRecDepth 20000 in
theorem gX6_reach_X6_isSun : GoodIn wsX6_reach (va_wsS RX6 47 yX6_isSun wsX6_isSun) := goodIn_app (goodIn_of _ (by decide +kernel)) ggX6_reach_X6_isSun
set_option maxRecDepth 20000 in
theorem ggX6_reach_X6_ofMill : GoodIn wsX6_reach wsX6_ofMill := goodIn_r _ [11] (by decide +kernel) (by decide +kernel)
set_option maxRecDepth 20000 in
theorem gX6_reach_X6_ofMill : GoodIn wsX6_reach (va_wsS RX6 36 yX6_ofMill wsX6_ofMill) := goodIn_app (goodIn_of _ (by decide +kernel)) ggX6_reach_X6_ofMill
theorem dX6_reach_0 : decode cX6_reach 0 = .ok (.iload_n 3, 1) := by decide +kernel
theorem dX6_reach_1 : decode cX6_reach 1 = .ok (.bipush 12, 2) := by decide +kernel
theorem dX6_reach_3 : decode cX6_reach 3 = .ok (.if_icmp .ge 10, 3) := by decide +kernel
theorem dX6_reach_6 : decode cX6_reach 6 = .ok (.bipush 12, 2) := by decide +kernel
theorem dX6_reach_8 : decode cX6_reach 8 = .ok (.iload_n 3, 1) := by decide +kernel
theorem dX6_reach_9 : decode cX6_reach 9 = .ok (.isub, 1) := by decide +kernel
theorem dX6_reach_10 : decode cX6_reach 10 = .ok (.goto 7, 3) := by decide +kernel
theorem dX6_reach_13 : decode cX6_reach 13 = .ok (.iload_n 3, 1) := by decide +kernel
theorem dX6_reach_14 : decode cX6_reach 14 = .ok (.bipush 12, 2) := by decide +kernel
theorem dX6_reach_16 : decode cX6_reach 16 = .ok (.isub, 1) := by decide +kernel
theorem dX6_reach_17 : decode cX6_reach 17 = .ok (.istore 4, 2) := by decide +kernel
theorem dX6_reach_19 : decode cX6_reach 19 = .ok (.iload_n 3, 1) := by decide +kernel
theorem dX6_reach_20 : decode cX6_reach 20 = .ok (.invokestatic 47, 3) := by decide +kernel
theorem dX6_reach_23 : decode cX6_reach 23 = .ok (.ifCond .eq 24, 3) := by decide +kernel
theorem dX6_reach_26 : decode cX6_reach 26 = .ok (.aload_n 0, 1) := by decide +kernel
theorem dX6_reach_27 : decode cX6_reach 27 = .ok (.getfield 7, 3) := by decide +kernel
theorem dX6_reach_30 : decode cX6_reach 30 = .ok (.iload_n 1, 1) := by decide +kernel
theorem dX6_reach_31 : decode cX6_reach 31 = .ok (.iload_n 2, 1) := by decide +kernel
theorem dX6_reach_32 : decode cX6_reach 32 = .ok (.iconst 0, 1) := by decide +kernel
theorem dX6_reach_33 : decode cX6_reach 33 = .ok (.invokestatic 36, 3) := by decide +kernel
theorem dX6_reach_36 : decode cX6_reach 36 = .ok (.iaload, 1) := by decide +kernel
theorem dX6_reach_37 : decode cX6_reach 37 = .ok (.iload 4, 2) := by decide +kernel
theorem dX6_reach_39 : decode cX6_reach 39 = .ok (.imul, 1) := by decide +kernel
theorem dX6_reach_40 : decode cX6_reach 40 = .ok (.iconst 1, 1) := by decide +kernel
theorem dX6_reach_41 : decode cX6_reach 41 = .ok (.iadd, 1) := by decide +kernel
theorem dX6_reach_42 : decode cX6_reach 42 = .ok (.iconst 2, 1) := by decide +kernel
theorem dX6_reach_43 : decode cX6_reach 43 = .ok (.idiv, 1) := by decide +kernel
theorem dX6_reach_44 : decode cX6_reach 44 = .ok (.goto 4, 3) := by decide +kernel
theorem dX6_reach_47 : decode cX6_reach 47 = .ok (.iconst 0, 1) := by decide +kernel
theorem dX6_reach_48 : decode cX6_reach 48 = .ok (.ireturn, 1) := by decide +kernel
set_option maxRecDepth 20000 in
theorem ggX6_walks_X6_ofMill : GoodIn wsX6_walks wsX6_ofMill := goodIn_r _ [5] (by decide +kernel) (by decide +kernel)
set_option maxRecDepth 20000 in
theorem gX6_walks_X6_ofMill : GoodIn wsX6_walks (va_wsS RX6 36 yX6_ofMill wsX6_ofMill) := goodIn_app (goodIn_of _ (by decide +kernel)) ggX6_walks_X6_ofMill
set_option maxRecDepth 20000 in
theorem ggX6_walks_X6_reach : GoodIn wsX6_walks wsX6_reach := goodIn_r _ [9, 1, 10, 11, 4, 12, 13, 14, 15, 2, 3, 5, 22, 23, 24, 25, 26, 27, 28] (by decide +kernel) (by decide +kernel)
set_option maxRecDepth 20000 in
theorem gX6_walks_X6_reach : GoodIn wsX6_walks (wsV RX6 51 RX6 yX6_reach wsX6_reach) := goodIn_app (goodIn_of _ (by decide +kernel)) ggX6_walks_X6_reach
set_option maxRecDepth 20000 in
theorem ggX6_walks_X6_toEast : GoodIn wsX6_walks wsX6_toEast := goodIn_r _ [18] (by decide +kernel) (by decide +kernel)
set_option maxRecDepth 20000 in
theorem gX6_walks_X6_toEast : GoodIn wsX6_walks (va_wsS RX6 54 yX6_toEast wsX6_toEast) := goodIn_app (goodIn_of _ (by decide +kernel)) ggX6_walks_X6_toEast
set_option maxRecDepth 20000 in
theorem ggX6_walks_X6_toSouth : GoodIn wsX6_walks wsX6_toSouth := goodIn_r _ [21, 13, 14, 4, 15] (by decide +kernel) (by decide +kernel)
set_option maxRecDepth 20000 in
theorem gX6_walks_X6_toSouth : GoodIn wsX6_walks (va_wsS RX6 58 yX6_toSouth wsX6_toSouth) := goodIn_app (goodIn_of _ (by decide +kernel)) ggX6_walks_X6_toSouth
set_option maxRecDepth 20000 in
theorem ggX6_walks_X6_in : GoodIn wsX6_walks wsX6_in := goodIn_r _ [15] (by decide +kernel) (by decide +kernel)
set_option maxRecDepth 20000 in
theorem gX6_walks_X6_in : GoodIn wsX6_walks (va_wsS RX6 22 yX6_in wsX6_in) := goodIn_app (goodIn_of _ (by decide +kernel)) ggX6_walks_X6_in
theorem dX6_walks_0 : decode cX6_walks 0 = .ok (.aload_n 0, 1) := by decide +kernel
theorem dX6_walks_1 : decode cX6_walks 1 = .ok (.getfield 7, 3) := by decide +kernel
theorem dX6_walks_4 : decode cX6_walks 4 = .ok (.iload_n 1, 1) := by decide +kernel
theorem dX6_walks_5 : decode cX6_walks 5 = .ok (.iload_n 2, 1) := by decide +kernel
theorem dX6_walks_6 : decode cX6_walks 6 = .ok (.iconst 1, 1) := by decide +kernel
theorem dX6_walks_7 : decode cX6_walks 7 = .ok (.invokestatic 36, 3) := by decide +kernel
theorem dX6_walks_10 : decode cX6_walks 10 = .ok (.iaload, 1) := by decide +kernel
theorem dX6_walks_11 : decode cX6_walks 11 = .ok (.istore 5, 2) := by decide +kernel
theorem dX6_walks_13 : decode cX6_walks 13 = .ok (.iload 5, 2) := by decide +kernel
theorem dX6_walks_15 : decode cX6_walks 15 = .ok (.bipush 12, 2) := by decide +kernel
theorem dX6_walks_17 : decode cX6_walks 17 = .ok (.irem, 1) := by decide +kernel
theorem dX6_walks_18 : decode cX6_walks 18 = .ok (.istore 6, 2) := by decide +kernel
theorem dX6_walks_20 : decode cX6_walks 20 = .ok (.iload 5, 2) := by decide +kernel
theorem dX6_walks_22 : decode cX6_walks 22 = .ok (.bipush 12, 2) := by decide +kernel
theorem dX6_walks_24 : decode cX6_walks 24 = .ok (.idiv, 1) := by decide +kernel
theorem dX6_walks_25 : decode cX6_walks 25 = .ok (.istore 7, 2) := by decide +kernel
theorem dX6_walks_27 : decode cX6_walks 27 = .ok (.iconst 0, 1) := by decide +kernel
theorem dX6_walks_28 : decode cX6_walks 28 = .ok (.istore 8, 2) := by decide +kernel
theorem dX6_walks_30 : decode cX6_walks 30 = .ok (.iconst 0, 1) := by decide +kernel
theorem dX6_walks_31 : decode cX6_walks 31 = .ok (.istore 9, 2) := by decide +kernel
theorem dX6_walks_33 : decode cX6_walks 33 = .ok (.iload 9, 2) := by decide +kernel
theorem dX6_walks_35 : decode cX6_walks 35 = .ok (.aload_n 0, 1) := by decide +kernel
theorem dX6_walks_36 : decode cX6_walks 36 = .ok (.iload_n 1, 1) := by decide +kernel
theorem dX6_walks_37 : decode cX6_walks 37 = .ok (.iload_n 2, 1) := by decide +kernel
theorem dX6_walks_38 : decode cX6_walks 38 = .ok (.iload 4, 2) := by decide +kernel
theorem dX6_walks_40 : decode cX6_walks 40 = .ok (.invokevirtual 51, 3) := by decide +kernel
theorem dX6_walks_43 : decode cX6_walks 43 = .ok (.if_icmp .ge 75, 3) := by decide +kernel
theorem dX6_walks_46 : decode cX6_walks 46 = .ok (.iload 6, 2) := by decide +kernel
theorem dX6_walks_48 : decode cX6_walks 48 = .ok (.iload 4, 2) := by decide +kernel
theorem dX6_walks_50 : decode cX6_walks 50 = .ok (.invokestatic 54, 3) := by decide +kernel
theorem dX6_walks_53 : decode cX6_walks 53 = .ok (.iadd, 1) := by decide +kernel
theorem dX6_walks_54 : decode cX6_walks 54 = .ok (.istore 6, 2) := by decide +kernel
theorem dX6_walks_56 : decode cX6_walks 56 = .ok (.iload 7, 2) := by decide +kernel
theorem dX6_walks_58 : decode cX6_walks 58 = .ok (.iload 4, 2) := by decide +kernel
theorem dX6_walks_60 : decode cX6_walks 60 = .ok (.invokestatic 58, 3) := by decide +kernel
theorem dX6_walks_63 : decode cX6_walks 63 = .ok (.iadd, 1) := by decide +kernel
theorem dX6_walks_64 : decode cX6_walks 64 = .ok (.istore 7, 2) := by decide +kernel
theorem dX6_walks_66 : decode cX6_walks 66 = .ok (.iload 8, 2) := by decide +kernel
theorem dX6_walks_68 : decode cX6_walks 68 = .ok (.ifCond .ne 37, 3) := by decide +kernel
theorem dX6_walks_71 : decode cX6_walks 71 = .ok (.iload 6, 2) := by decide +kernel
theorem dX6_walks_73 : decode cX6_walks 73 = .ok (.iconst 0, 1) := by decide +kernel
theorem dX6_walks_74 : decode cX6_walks 74 = .ok (.bipush 11, 2) := by decide +kernel
theorem dX6_walks_76 : decode cX6_walks 76 = .ok (.invokestatic 22, 3) := by decide +kernel
theorem dX6_walks_79 : decode cX6_walks 79 = .ok (.ifCond .eq 30, 3) := by decide +kernel
theorem dX6_walks_82 : decode cX6_walks 82 = .ok (.iload 7, 2) := by decide +kernel
theorem dX6_walks_84 : decode cX6_walks 84 = .ok (.iconst 0, 1) := by decide +kernel
theorem dX6_walks_85 : decode cX6_walks 85 = .ok (.bipush 7, 2) := by decide +kernel
theorem dX6_walks_87 : decode cX6_walks 87 = .ok (.invokestatic 22, 3) := by decide +kernel
theorem dX6_walks_90 : decode cX6_walks 90 = .ok (.ifCond .eq 19, 3) := by decide +kernel
theorem dX6_walks_93 : decode cX6_walks 93 = .ok (.bipush 12, 2) := by decide +kernel
theorem dX6_walks_95 : decode cX6_walks 95 = .ok (.iload 7, 2) := by decide +kernel
theorem dX6_walks_97 : decode cX6_walks 97 = .ok (.imul, 1) := by decide +kernel
theorem dX6_walks_98 : decode cX6_walks 98 = .ok (.iload 6, 2) := by decide +kernel
theorem dX6_walks_100 : decode cX6_walks 100 = .ok (.iadd, 1) := by decide +kernel
theorem dX6_walks_101 : decode cX6_walks 101 = .ok (.iload_n 3, 1) := by decide +kernel
theorem dX6_walks_102 : decode cX6_walks 102 = .ok (.if_icmp .ne 7, 3) := by decide +kernel
theorem dX6_walks_105 : decode cX6_walks 105 = .ok (.iconst 1, 1) := by decide +kernel
theorem dX6_walks_106 : decode cX6_walks 106 = .ok (.goto 4, 3) := by decide +kernel
theorem dX6_walks_109 : decode cX6_walks 109 = .ok (.iconst 0, 1) := by decide +kernel
theorem dX6_walks_110 : decode cX6_walks 110 = .ok (.istore 8, 2) := by decide +kernel
theorem dX6_walks_112 : decode cX6_walks 112 = .ok (.iinc 9 1, 3) := by decide +kernel
theorem dX6_walks_115 : decode cX6_walks 115 = .ok (.goto (-82), 3) := by decide +kernel
theorem dX6_walks_118 : decode cX6_walks 118 = .ok (.iload 8, 2) := by decide +kernel
theorem dX6_walks_120 : decode cX6_walks 120 = .ok (.ireturn, 1) := by decide +kernel
set_option maxRecDepth 20000 in
theorem ggX6_lies_X6_ofMill : GoodIn wsX6_lies wsX6_ofMill := goodIn_r _ [5] (by decide +kernel) (by decide +kernel)
set_option maxRecDepth 20000 in
theorem gX6_lies_X6_ofMill : GoodIn wsX6_lies (va_wsS RX6 36 yX6_ofMill wsX6_ofMill) := goodIn_app (goodIn_of _ (by decide +kernel)) ggX6_lies_X6_ofMill
set_option maxRecDepth 20000 in
theorem ggX6_lies_X6_apart : GoodIn wsX6_lies wsX6_apart := goodIn_r _ [8] (by decide +kernel) (by decide +kernel)
set_option maxRecDepth 20000 in
theorem gX6_lies_X6_apart : GoodIn wsX6_lies (va_wsS RX6 43 yX6_apart wsX6_apart) := goodIn_app (goodIn_of _ (by decide +kernel)) ggX6_lies_X6_apart
set_option maxRecDepth 20000 in
theorem ggX6_lies_X6_reach : GoodIn wsX6_lies wsX6_reach := goodIn_r _ [12, 1, 13, 14, 4, 15, 16, 17, 18, 2, 3, 5, 25, 26, 27, 28, 29, 30, 31] (by decide +kernel) (by decide +kernel)
set_option maxRecDepth 20000 in
theorem gX6_lies_X6_reach : GoodIn wsX6_lies (wsV RX6 51 RX6 yX6_reach wsX6_reach) := goodIn_app (goodIn_of _ (by decide +kernel)) ggX6_lies_X6_reach
set_option maxRecDepth 20000 in
theorem ggX6_lies_X6_toEast : GoodIn wsX6_lies wsX6_toEast := goodIn_r _ [21] (by decide +kernel) (by decide +kernel)
set_option maxRecDepth 20000 in
theorem gX6_lies_X6_toEast : GoodIn wsX6_lies (va_wsS RX6 54 yX6_toEast wsX6_toEast) := goodIn_app (goodIn_of _ (by decide +kernel)) ggX6_lies_X6_toEast
set_option maxRecDepth 20000 in
theorem ggX6_lies_X6_toSouth : GoodIn wsX6_lies wsX6_toSouth := goodIn_r _ [24, 16, 17, 4, 18] (by decide +kernel) (by decide +kernel)
set_option maxRecDepth 20000 in
theorem gX6_lies_X6_toSouth : GoodIn wsX6_lies (va_wsS RX6 58 yX6_toSouth wsX6_toSouth) := goodIn_app (goodIn_of _ (by decide +kernel)) ggX6_lies_X6_toSouth
theorem dX6_lies_0 : decode cX6_lies 0 = .ok (.aload_n 0, 1) := by decide +kernel
theorem dX6_lies_1 : decode cX6_lies 1 = .ok (.getfield 7, 3) := by decide +kernel
theorem dX6_lies_4 : decode cX6_lies 4 = .ok (.iload_n 1, 1) := by decide +kernel
theorem dX6_lies_5 : decode cX6_lies 5 = .ok (.iload_n 2, 1) := by decide +kernel
theorem dX6_lies_6 : decode cX6_lies 6 = .ok (.iconst 1, 1) := by decide +kernel
theorem dX6_lies_7 : decode cX6_lies 7 = .ok (.invokestatic 36, 3) := by decide +kernel
theorem dX6_lies_10 : decode cX6_lies 10 = .ok (.iaload, 1) := by decide +kernel
theorem dX6_lies_11 : decode cX6_lies 11 = .ok (.istore 5, 2) := by decide +kernel
theorem dX6_lies_13 : decode cX6_lies 13 = .ok (.iload_n 3, 1) := by decide +kernel
theorem dX6_lies_14 : decode cX6_lies 14 = .ok (.bipush 12, 2) := by decide +kernel
theorem dX6_lies_16 : decode cX6_lies 16 = .ok (.irem, 1) := by decide +kernel
theorem dX6_lies_17 : decode cX6_lies 17 = .ok (.iload 5, 2) := by decide +kernel
theorem dX6_lies_19 : decode cX6_lies 19 = .ok (.bipush 12, 2) := by decide +kernel
theorem dX6_lies_21 : decode cX6_lies 21 = .ok (.irem, 1) := by decide +kernel
theorem dX6_lies_22 : decode cX6_lies 22 = .ok (.isub, 1) := by decide +kernel
theorem dX6_lies_23 : decode cX6_lies 23 = .ok (.istore 6, 2) := by decide +kernel
theorem dX6_lies_25 : decode cX6_lies 25 = .ok (.iload_n 3, 1) := by decide +kernel
theorem dX6_lies_26 : decode cX6_lies 26 = .ok (.bipush 12, 2) := by decide +kernel
theorem dX6_lies_28 : decode cX6_lies 28 = .ok (.idiv, 1) := by decide +kernel
theorem dX6_lies_29 : decode cX6_lies 29 = .ok (.iload 5, 2) := by decide +kernel
theorem dX6_lies_31 : decode cX6_lies 31 = .ok (.bipush 12, 2) := by decide +kernel
theorem dX6_lies_33 : decode cX6_lies 33 = .ok (.idiv, 1) := by decide +kernel
theorem dX6_lies_34 : decode cX6_lies 34 = .ok (.isub, 1) := by decide +kernel
theorem dX6_lies_35 : decode cX6_lies 35 = .ok (.istore 7, 2) := by decide +kernel
theorem dX6_lies_37 : decode cX6_lies 37 = .ok (.iload 5, 2) := by decide +kernel
theorem dX6_lies_39 : decode cX6_lies 39 = .ok (.iload_n 3, 1) := by decide +kernel
theorem dX6_lies_40 : decode cX6_lies 40 = .ok (.invokestatic 43, 3) := by decide +kernel
theorem dX6_lies_43 : decode cX6_lies 43 = .ok (.istore 8, 2) := by decide +kernel
theorem dX6_lies_45 : decode cX6_lies 45 = .ok (.iload 8, 2) := by decide +kernel
theorem dX6_lies_47 : decode cX6_lies 47 = .ok (.ifCond .le 46, 3) := by decide +kernel
theorem dX6_lies_50 : decode cX6_lies 50 = .ok (.iload 8, 2) := by decide +kernel
theorem dX6_lies_52 : decode cX6_lies 52 = .ok (.aload_n 0, 1) := by decide +kernel
theorem dX6_lies_53 : decode cX6_lies 53 = .ok (.iload_n 1, 1) := by decide +kernel
theorem dX6_lies_54 : decode cX6_lies 54 = .ok (.iload_n 2, 1) := by decide +kernel
theorem dX6_lies_55 : decode cX6_lies 55 = .ok (.iload 4, 2) := by decide +kernel
theorem dX6_lies_57 : decode cX6_lies 57 = .ok (.invokevirtual 51, 3) := by decide +kernel
theorem dX6_lies_60 : decode cX6_lies 60 = .ok (.if_icmp .gt 33, 3) := by decide +kernel
theorem dX6_lies_63 : decode cX6_lies 63 = .ok (.iload 6, 2) := by decide +kernel
theorem dX6_lies_65 : decode cX6_lies 65 = .ok (.iload 8, 2) := by decide +kernel
theorem dX6_lies_67 : decode cX6_lies 67 = .ok (.iload 4, 2) := by decide +kernel
theorem dX6_lies_69 : decode cX6_lies 69 = .ok (.invokestatic 54, 3) := by decide +kernel
theorem dX6_lies_72 : decode cX6_lies 72 = .ok (.imul, 1) := by decide +kernel
theorem dX6_lies_73 : decode cX6_lies 73 = .ok (.if_icmp .ne 20, 3) := by decide +kernel
theorem dX6_lies_76 : decode cX6_lies 76 = .ok (.iload 7, 2) := by decide +kernel
theorem dX6_lies_78 : decode cX6_lies 78 = .ok (.iload 8, 2) := by decide +kernel
theorem dX6_lies_80 : decode cX6_lies 80 = .ok (.iload 4, 2) := by decide +kernel
theorem dX6_lies_82 : decode cX6_lies 82 = .ok (.invokestatic 58, 3) := by decide +kernel
theorem dX6_lies_85 : decode cX6_lies 85 = .ok (.imul, 1) := by decide +kernel
theorem dX6_lies_86 : decode cX6_lies 86 = .ok (.if_icmp .ne 7, 3) := by decide +kernel
theorem dX6_lies_89 : decode cX6_lies 89 = .ok (.iconst 1, 1) := by decide +kernel
theorem dX6_lies_90 : decode cX6_lies 90 = .ok (.goto 4, 3) := by decide +kernel
theorem dX6_lies_93 : decode cX6_lies 93 = .ok (.iconst 0, 1) := by decide +kernel
theorem dX6_lies_94 : decode cX6_lies 94 = .ok (.ireturn, 1) := by decide +kernel
set_option maxRecDepth 20000 in
theorem ggX6_wouldTrouble_X6_ofHouse : GoodIn wsX6_wouldTrouble wsX6_ofHouse := goodIn_r _ [5] (by decide +kernel) (by decide +kernel)
set_option maxRecDepth 20000 in
theorem gX6_wouldTrouble_X6_ofHouse : GoodIn wsX6_wouldTrouble (va_wsS RX6 61 yX6_ofHouse wsX6_ofHouse) := goodIn_app (goodIn_of _ (by decide +kernel)) ggX6_wouldTrouble_X6_ofHouse
set_option maxRecDepth 20000 in
theorem ggX6_wouldTrouble_X6_loud : GoodIn wsX6_wouldTrouble wsX6_loud := goodIn_r _ [9, 1, 10, 11, 4, 12, 13, 14, 15, 40, 41, 42, 43, 44, 45, 46] (by decide +kernel) (by decide +kernel)
set_option maxRecDepth 20000 in
theorem gX6_wouldTrouble_X6_loud : GoodIn wsX6_wouldTrouble (wsV RX6 64 RX6 yX6_loud wsX6_loud) := goodIn_app (goodIn_of _ (by decide +kernel)) ggX6_wouldTrouble_X6_loud
set_option maxRecDepth 20000 in
theorem ggX6_wouldTrouble_X6_borne : GoodIn wsX6_wouldTrouble wsX6_borne := goodIn_r _ [19, 1, 40, 41, 42, 43, 44, 45, 46] (by decide +kernel) (by decide +kernel)
set_option maxRecDepth 20000 in
theorem gX6_wouldTrouble_X6_borne : GoodIn wsX6_wouldTrouble (wsV RX6 68 RX6 yX6_borne wsX6_borne) := goodIn_app (goodIn_of _ (by decide +kernel)) ggX6_wouldTrouble_X6_borne
set_option maxRecDepth 20000 in
theorem ggX6_wouldTrouble_X6_walks : GoodIn wsX6_wouldTrouble wsX6_walks := goodIn_r _ [23, 1, 10, 11, 4, 12, 24, 25, 26, 27, 28, 29, 30, 31, 32, 33, 34, 35, 36, 37, 38, 39, 40, 41, 42, 43, 44, 45, 46] (by decide +kernel) (by decide +kernel)
set_option maxRecDepth 20000 in
theorem gX6_wouldTrouble_X6_walks : GoodIn wsX6_wouldTrouble (wsV RX6 71 RX6 yX6_walks wsX6_walks) := goodIn_app (goodIn_of _ (by decide +kernel)) ggX6_wouldTrouble_X6_walks
theorem dX6_wouldTrouble_0 : decode cX6_wouldTrouble 0 = .ok (.aload_n 0, 1) := by decide +kernel
theorem dX6_wouldTrouble_1 : decode cX6_wouldTrouble 1 = .ok (.getfield 7, 3) := by decide +kernel
theorem dX6_wouldTrouble_4 : decode cX6_wouldTrouble 4 = .ok (.iload_n 1, 1) := by decide +kernel
theorem dX6_wouldTrouble_5 : decode cX6_wouldTrouble 5 = .ok (.iload_n 2, 1) := by decide +kernel
theorem dX6_wouldTrouble_6 : decode cX6_wouldTrouble 6 = .ok (.iconst 0, 1) := by decide +kernel
theorem dX6_wouldTrouble_7 : decode cX6_wouldTrouble 7 = .ok (.invokestatic 61, 3) := by decide +kernel
theorem dX6_wouldTrouble_10 : decode cX6_wouldTrouble 10 = .ok (.iaload, 1) := by decide +kernel
theorem dX6_wouldTrouble_11 : decode cX6_wouldTrouble 11 = .ok (.istore 6, 2) := by decide +kernel
theorem dX6_wouldTrouble_13 : decode cX6_wouldTrouble 13 = .ok (.aload_n 0, 1) := by decide +kernel
theorem dX6_wouldTrouble_14 : decode cX6_wouldTrouble 14 = .ok (.getfield 7, 3) := by decide +kernel
theorem dX6_wouldTrouble_17 : decode cX6_wouldTrouble 17 = .ok (.iload_n 1, 1) := by decide +kernel
theorem dX6_wouldTrouble_18 : decode cX6_wouldTrouble 18 = .ok (.bipush 34, 2) := by decide +kernel
theorem dX6_wouldTrouble_20 : decode cX6_wouldTrouble 20 = .ok (.iadd, 1) := by decide +kernel
theorem dX6_wouldTrouble_21 : decode cX6_wouldTrouble 21 = .ok (.iload 5, 2) := by decide +kernel
theorem dX6_wouldTrouble_23 : decode cX6_wouldTrouble 23 = .ok (.iadd, 1) := by decide +kernel
theorem dX6_wouldTrouble_24 : decode cX6_wouldTrouble 24 = .ok (.iaload, 1) := by decide +kernel
theorem dX6_wouldTrouble_25 : decode cX6_wouldTrouble 25 = .ok (.iconst 2, 1) := by decide +kernel
theorem dX6_wouldTrouble_26 : decode cX6_wouldTrouble 26 = .ok (.if_icmp .ge 5, 3) := by decide +kernel
theorem dX6_wouldTrouble_29 : decode cX6_wouldTrouble 29 = .ok (.iconst 0, 1) := by decide +kernel
theorem dX6_wouldTrouble_30 : decode cX6_wouldTrouble 30 = .ok (.ireturn, 1) := by decide +kernel
theorem dX6_wouldTrouble_31 : decode cX6_wouldTrouble 31 = .ok (.iload 4, 2) := by decide +kernel
theorem dX6_wouldTrouble_33 : decode cX6_wouldTrouble 33 = .ok (.ifCond .ne 31, 3) := by decide +kernel
theorem dX6_wouldTrouble_36 : decode cX6_wouldTrouble 36 = .ok (.aload_n 0, 1) := by decide +kernel
theorem dX6_wouldTrouble_37 : decode cX6_wouldTrouble 37 = .ok (.iload_n 1, 1) := by decide +kernel
theorem dX6_wouldTrouble_38 : decode cX6_wouldTrouble 38 = .ok (.iload_n 3, 1) := by decide +kernel
theorem dX6_wouldTrouble_39 : decode cX6_wouldTrouble 39 = .ok (.iload 6, 2) := by decide +kernel
theorem dX6_wouldTrouble_41 : decode cX6_wouldTrouble 41 = .ok (.iload 5, 2) := by decide +kernel
theorem dX6_wouldTrouble_43 : decode cX6_wouldTrouble 43 = .ok (.invokevirtual 64, 3) := by decide +kernel
theorem dX6_wouldTrouble_46 : decode cX6_wouldTrouble 46 = .ok (.aload_n 0, 1) := by decide +kernel
theorem dX6_wouldTrouble_47 : decode cX6_wouldTrouble 47 = .ok (.iload_n 1, 1) := by decide +kernel
theorem dX6_wouldTrouble_48 : decode cX6_wouldTrouble 48 = .ok (.iload 5, 2) := by decide +kernel
theorem dX6_wouldTrouble_50 : decode cX6_wouldTrouble 50 = .ok (.invokevirtual 68, 3) := by decide +kernel
theorem dX6_wouldTrouble_53 : decode cX6_wouldTrouble 53 = .ok (.if_icmp .le 7, 3) := by decide +kernel
theorem dX6_wouldTrouble_56 : decode cX6_wouldTrouble 56 = .ok (.iconst 1, 1) := by decide +kernel
theorem dX6_wouldTrouble_57 : decode cX6_wouldTrouble 57 = .ok (.goto 17, 3) := by decide +kernel
theorem dX6_wouldTrouble_60 : decode cX6_wouldTrouble 60 = .ok (.iconst 0, 1) := by decide +kernel
theorem dX6_wouldTrouble_61 : decode cX6_wouldTrouble 61 = .ok (.goto 13, 3) := by decide +kernel
theorem dX6_wouldTrouble_64 : decode cX6_wouldTrouble 64 = .ok (.aload_n 0, 1) := by decide +kernel
theorem dX6_wouldTrouble_65 : decode cX6_wouldTrouble 65 = .ok (.iload_n 1, 1) := by decide +kernel
theorem dX6_wouldTrouble_66 : decode cX6_wouldTrouble 66 = .ok (.iload_n 3, 1) := by decide +kernel
theorem dX6_wouldTrouble_67 : decode cX6_wouldTrouble 67 = .ok (.iload 6, 2) := by decide +kernel
theorem dX6_wouldTrouble_69 : decode cX6_wouldTrouble 69 = .ok (.iload 5, 2) := by decide +kernel
theorem dX6_wouldTrouble_71 : decode cX6_wouldTrouble 71 = .ok (.invokevirtual 71, 3) := by decide +kernel
theorem dX6_wouldTrouble_74 : decode cX6_wouldTrouble 74 = .ok (.ireturn, 1) := by decide +kernel
set_option maxRecDepth 20000 in
theorem ggX6_wouldTroubleAny_X6_wouldTrouble : GoodIn wsX6_wouldTroubleAny wsX6_wouldTrouble := goodIn_r _ [5, 6, 7, 8, 4, 9, 10, 11, 12, 13, 14, 15, 16, 17, 18, 19, 20, 21, 22, 23, 24, 25, 26, 27, 28, 29, 30, 31, 32, 33, 34, 35, 36, 37, 38, 39, 40, 41, 42, 43, 44, 45, 46, 47, 48, 49, 50] (by decide +kernel) (by decide +kernel)
set_option maxRecDepth 20000 in
theorem gX6_wouldTroubleAny_X6_wouldTrouble : GoodIn wsX6_wouldTroubleAny (wsV RX6 75 RX6 yX6_wouldTrouble wsX6_wouldTrouble) := goodIn_app (goodIn_of _ (by decide +kernel)) ggX6_wouldTroubleAny_X6_wouldTrouble
theorem dX6_wouldTroubleAny_0 : decode cX6_wouldTroubleAny 0 = .ok (.aload_n 0, 1) := by decide +kernel
theorem dX6_wouldTroubleAny_1 : decode cX6_wouldTroubleAny 1 = .ok (.iload_n 1, 1) := by decide +kernel
theorem dX6_wouldTroubleAny_2 : decode cX6_wouldTroubleAny 2 = .ok (.iload_n 2, 1) := by decide +kernel
theorem dX6_wouldTroubleAny_3 : decode cX6_wouldTroubleAny 3 = .ok (.iload_n 3, 1) := by decide +kernel
theorem dX6_wouldTroubleAny_4 : decode cX6_wouldTroubleAny 4 = .ok (.iconst 0, 1) := by decide +kernel
theorem dX6_wouldTroubleAny_5 : decode cX6_wouldTroubleAny 5 = .ok (.iload 4, 2) := by decide +kernel
theorem dX6_wouldTroubleAny_7 : decode cX6_wouldTroubleAny 7 = .ok (.invokevirtual 75, 3) := by decide +kernel
theorem dX6_wouldTroubleAny_10 : decode cX6_wouldTroubleAny 10 = .ok (.ifCond .ne 16, 3) := by decide +kernel
theorem dX6_wouldTroubleAny_13 : decode cX6_wouldTroubleAny 13 = .ok (.aload_n 0, 1) := by decide +kernel
theorem dX6_wouldTroubleAny_14 : decode cX6_wouldTroubleAny 14 = .ok (.iload_n 1, 1) := by decide +kernel
theorem dX6_wouldTroubleAny_15 : decode cX6_wouldTroubleAny 15 = .ok (.iload_n 2, 1) := by decide +kernel
theorem dX6_wouldTroubleAny_16 : decode cX6_wouldTroubleAny 16 = .ok (.iload_n 3, 1) := by decide +kernel
theorem dX6_wouldTroubleAny_17 : decode cX6_wouldTroubleAny 17 = .ok (.iconst 1, 1) := by decide +kernel
theorem dX6_wouldTroubleAny_18 : decode cX6_wouldTroubleAny 18 = .ok (.iload 4, 2) := by decide +kernel
theorem dX6_wouldTroubleAny_20 : decode cX6_wouldTroubleAny 20 = .ok (.invokevirtual 75, 3) := by decide +kernel
theorem dX6_wouldTroubleAny_23 : decode cX6_wouldTroubleAny 23 = .ok (.ifCond .eq 7, 3) := by decide +kernel
theorem dX6_wouldTroubleAny_26 : decode cX6_wouldTroubleAny 26 = .ok (.iconst 1, 1) := by decide +kernel
theorem dX6_wouldTroubleAny_27 : decode cX6_wouldTroubleAny 27 = .ok (.goto 4, 3) := by decide +kernel
theorem dX6_wouldTroubleAny_30 : decode cX6_wouldTroubleAny 30 = .ok (.iconst 0, 1) := by decide +kernel
theorem dX6_wouldTroubleAny_31 : decode cX6_wouldTroubleAny 31 = .ok (.ireturn, 1) := by decide +kernel
set_option maxRecDepth 20000 in
theorem ggX6_points_X6_stands : GoodIn wsX6_points wsX6_stands := goodIn_r _ [5] (by decide +kernel) (by decide +kernel)
set_option maxRecDepth 20000 in
theorem gX6_points_X6_stands : GoodIn wsX6_points (va_wsS RX6 79 yX6_stands wsX6_stands) := goodIn_app (goodIn_of _ (by decide +kernel)) ggX6_points_X6_stands
theorem dX6_points_0 : decode cX6_points 0 = .ok (.iconst 0, 1) := by decide +kernel
theorem dX6_points_1 : decode cX6_points 1 = .ok (.istore 4, 2) := by decide +kernel
theorem dX6_points_3 : decode cX6_points 3 = .ok (.iconst 0, 1) := by decide +kernel
theorem dX6_points_4 : decode cX6_points 4 = .ok (.istore 5, 2) := by decide +kernel
theorem dX6_points_6 : decode cX6_points 6 = .ok (.iload 5, 2) := by decide +kernel
theorem dX6_points_8 : decode cX6_points 8 = .ok (.bipush 20, 2) := by decide +kernel
theorem dX6_points_10 : decode cX6_points 10 = .ok (.if_icmp .ge 36, 3) := by decide +kernel
theorem dX6_points_13 : decode cX6_points 13 = .ok (.iload 4, 2) := by decide +kernel
theorem dX6_points_15 : decode cX6_points 15 = .ok (.aload_n 0, 1) := by decide +kernel
theorem dX6_points_16 : decode cX6_points 16 = .ok (.getfield 7, 3) := by decide +kernel
theorem dX6_points_19 : decode cX6_points 19 = .ok (.iload_n 1, 1) := by decide +kernel
theorem dX6_points_20 : decode cX6_points 20 = .ok (.iload 5, 2) := by decide +kernel
theorem dX6_points_22 : decode cX6_points 22 = .ok (.iconst 2, 1) := by decide +kernel
theorem dX6_points_23 : decode cX6_points 23 = .ok (.idiv, 1) := by decide +kernel
theorem dX6_points_24 : decode cX6_points 24 = .ok (.iload_n 2, 1) := by decide +kernel
theorem dX6_points_25 : decode cX6_points 25 = .ok (.iload 5, 2) := by decide +kernel
theorem dX6_points_27 : decode cX6_points 27 = .ok (.iconst 2, 1) := by decide +kernel
theorem dX6_points_28 : decode cX6_points 28 = .ok (.irem, 1) := by decide +kernel
theorem dX6_points_29 : decode cX6_points 29 = .ok (.invokestatic 79, 3) := by decide +kernel
theorem dX6_points_32 : decode cX6_points 32 = .ok (.iaload, 1) := by decide +kernel
theorem dX6_points_33 : decode cX6_points 33 = .ok (.iload_n 3, 1) := by decide +kernel
theorem dX6_points_34 : decode cX6_points 34 = .ok (.ishr, 1) := by decide +kernel
theorem dX6_points_35 : decode cX6_points 35 = .ok (.iconst 1, 1) := by decide +kernel
theorem dX6_points_36 : decode cX6_points 36 = .ok (.iand, 1) := by decide +kernel
theorem dX6_points_37 : decode cX6_points 37 = .ok (.iadd, 1) := by decide +kernel
theorem dX6_points_38 : decode cX6_points 38 = .ok (.istore 4, 2) := by decide +kernel
theorem dX6_points_40 : decode cX6_points 40 = .ok (.iinc 5 1, 3) := by decide +kernel
theorem dX6_points_43 : decode cX6_points 43 = .ok (.goto (-37), 3) := by decide +kernel
theorem dX6_points_46 : decode cX6_points 46 = .ok (.iload 4, 2) := by decide +kernel
theorem dX6_points_48 : decode cX6_points 48 = .ok (.ireturn, 1) := by decide +kernel
set_option maxRecDepth 20000 in
theorem ggX6_reason_X6_ofHouse : GoodIn wsX6_reason wsX6_ofHouse := goodIn_r _ [5] (by decide +kernel) (by decide +kernel)
set_option maxRecDepth 20000 in
theorem gX6_reason_X6_ofHouse : GoodIn wsX6_reason (va_wsS RX6 61 yX6_ofHouse wsX6_ofHouse) := goodIn_app (goodIn_of _ (by decide +kernel)) ggX6_reason_X6_ofHouse
set_option maxRecDepth 20000 in
theorem ggX6_reason_X6_stands : GoodIn wsX6_reason wsX6_stands := goodIn_r _ [8] (by decide +kernel) (by decide +kernel)
set_option maxRecDepth 20000 in
theorem gX6_reason_X6_stands : GoodIn wsX6_reason (va_wsS RX6 79 yX6_stands wsX6_stands) := goodIn_app (goodIn_of _ (by decide +kernel)) ggX6_reason_X6_stands
set_option maxRecDepth 20000 in
theorem ggX6_reason_X6_isTied : GoodIn wsX6_reason wsX6_isTied := goodIn_r _ [12, 1, 13, 14, 4, 15, 51, 52, 53, 54, 55, 56, 57] (by decide +kernel) (by decide +kernel)
set_option maxRecDepth 20000 in
theorem gX6_reason_X6_isTied : GoodIn wsX6_reason (wsV RX6 40 RX6 yX6_isTied wsX6_isTied) := goodIn_app (goodIn_of _ (by decide +kernel)) ggX6_reason_X6_isTied
set_option maxRecDepth 20000 in
theorem ggX6_reason_X6_wouldTrouble : GoodIn wsX6_reason wsX6_wouldTrouble := goodIn_r _ [19, 1, 2, 3, 4, 5, 20, 21, 22, 23, 13, 14, 15, 24, 25, 26, 27, 28, 29, 30, 31, 32, 33, 34, 35, 36, 37, 38, 39, 40, 41, 42, 43, 44, 45, 46, 47, 48, 49, 50, 51, 52, 53, 54, 55, 56, 57] (by decide +kernel) (by decide +kernel)
set_option maxRecDepth 20000 in
theorem gX6_reason_X6_wouldTrouble : GoodIn wsX6_reason (wsV RX6 75 RX6 yX6_wouldTrouble wsX6_wouldTrouble) := goodIn_app (goodIn_of _ (by decide +kernel)) ggX6_reason_X6_wouldTrouble
set_option maxRecDepth 20000 in
theorem ggX6_reason_X6_isSun : GoodIn wsX6_reason wsX6_isSun := goodIn_r _ [41, 42, 43, 4, 44] (by decide +kernel) (by decide +kernel)
set_option maxRecDepth 20000 in
theorem gX6_reason_X6_isSun : GoodIn wsX6_reason (va_wsS RX6 47 yX6_isSun wsX6_isSun) := goodIn_app (goodIn_of _ (by decide +kernel)) ggX6_reason_X6_isSun
theorem dX6_reason_0 : decode cX6_reason 0 = .ok (.aload_n 0, 1) := by decide +kernel
theorem dX6_reason_1 : decode cX6_reason 1 = .ok (.getfield 7, 3) := by decide +kernel
theorem dX6_reason_4 : decode cX6_reason 4 = .ok (.iload_n 1, 1) := by decide +kernel
theorem dX6_reason_5 : decode cX6_reason 5 = .ok (.iload_n 2, 1) := by decide +kernel
theorem dX6_reason_6 : decode cX6_reason 6 = .ok (.iconst 1, 1) := by decide +kernel
theorem dX6_reason_7 : decode cX6_reason 7 = .ok (.invokestatic 61, 3) := by decide +kernel
theorem dX6_reason_10 : decode cX6_reason 10 = .ok (.iaload, 1) := by decide +kernel
theorem dX6_reason_11 : decode cX6_reason 11 = .ok (.iconst 3, 1) := by decide +kernel
theorem dX6_reason_12 : decode cX6_reason 12 = .ok (.if_icmp .lt 5, 3) := by decide +kernel
theorem dX6_reason_15 : decode cX6_reason 15 = .ok (.iconst 1, 1) := by decide +kernel
theorem dX6_reason_16 : decode cX6_reason 16 = .ok (.ireturn, 1) := by decide +kernel
theorem dX6_reason_17 : decode cX6_reason 17 = .ok (.aload_n 0, 1) := by decide +kernel
theorem dX6_reason_18 : decode cX6_reason 18 = .ok (.getfield 7, 3) := by decide +kernel
theorem dX6_reason_21 : decode cX6_reason 21 = .ok (.iload_n 1, 1) := by decide +kernel
theorem dX6_reason_22 : decode cX6_reason 22 = .ok (.iload_n 2, 1) := by decide +kernel
theorem dX6_reason_23 : decode cX6_reason 23 = .ok (.iload_n 3, 1) := by decide +kernel
theorem dX6_reason_24 : decode cX6_reason 24 = .ok (.iload 4, 2) := by decide +kernel
theorem dX6_reason_26 : decode cX6_reason 26 = .ok (.invokestatic 79, 3) := by decide +kernel
theorem dX6_reason_29 : decode cX6_reason 29 = .ok (.iaload, 1) := by decide +kernel
theorem dX6_reason_30 : decode cX6_reason 30 = .ok (.iload 5, 2) := by decide +kernel
theorem dX6_reason_32 : decode cX6_reason 32 = .ok (.ishr, 1) := by decide +kernel
theorem dX6_reason_33 : decode cX6_reason 33 = .ok (.iconst 1, 1) := by decide +kernel
theorem dX6_reason_34 : decode cX6_reason 34 = .ok (.iand, 1) := by decide +kernel
theorem dX6_reason_35 : decode cX6_reason 35 = .ok (.iconst 1, 1) := by decide +kernel
theorem dX6_reason_36 : decode cX6_reason 36 = .ok (.if_icmp .ne 5, 3) := by decide +kernel
theorem dX6_reason_39 : decode cX6_reason 39 = .ok (.iconst 2, 1) := by decide +kernel
theorem dX6_reason_40 : decode cX6_reason 40 = .ok (.ireturn, 1) := by decide +kernel
theorem dX6_reason_41 : decode cX6_reason 41 = .ok (.aload_n 0, 1) := by decide +kernel
theorem dX6_reason_42 : decode cX6_reason 42 = .ok (.iload_n 1, 1) := by decide +kernel
theorem dX6_reason_43 : decode cX6_reason 43 = .ok (.iload_n 3, 1) := by decide +kernel
theorem dX6_reason_44 : decode cX6_reason 44 = .ok (.iload 5, 2) := by decide +kernel
theorem dX6_reason_46 : decode cX6_reason 46 = .ok (.invokevirtual 40, 3) := by decide +kernel
theorem dX6_reason_49 : decode cX6_reason 49 = .ok (.ifCond .eq 5, 3) := by decide +kernel
theorem dX6_reason_52 : decode cX6_reason 52 = .ok (.iconst 3, 1) := by decide +kernel
theorem dX6_reason_53 : decode cX6_reason 53 = .ok (.ireturn, 1) := by decide +kernel
theorem dX6_reason_54 : decode cX6_reason 54 = .ok (.aload_n 0, 1) := by decide +kernel
theorem dX6_reason_55 : decode cX6_reason 55 = .ok (.getfield 7, 3) := by decide +kernel
theorem dX6_reason_58 : decode cX6_reason 58 = .ok (.iload_n 1, 1) := by decide +kernel
theorem dX6_reason_59 : decode cX6_reason 59 = .ok (.bipush 34, 2) := by decide +kernel
theorem dX6_reason_61 : decode cX6_reason 61 = .ok (.iadd, 1) := by decide +kernel
theorem dX6_reason_62 : decode cX6_reason 62 = .ok (.iload 5, 2) := by decide +kernel
theorem dX6_reason_64 : decode cX6_reason 64 = .ok (.iadd, 1) := by decide +kernel
theorem dX6_reason_65 : decode cX6_reason 65 = .ok (.iaload, 1) := by decide +kernel
theorem dX6_reason_66 : decode cX6_reason 66 = .ok (.iconst 2, 1) := by decide +kernel
theorem dX6_reason_67 : decode cX6_reason 67 = .ok (.if_icmp .ge 5, 3) := by decide +kernel
theorem dX6_reason_70 : decode cX6_reason 70 = .ok (.iconst 4, 1) := by decide +kernel
theorem dX6_reason_71 : decode cX6_reason 71 = .ok (.ireturn, 1) := by decide +kernel
theorem dX6_reason_72 : decode cX6_reason 72 = .ok (.aload_n 0, 1) := by decide +kernel
theorem dX6_reason_73 : decode cX6_reason 73 = .ok (.iload_n 1, 1) := by decide +kernel
theorem dX6_reason_74 : decode cX6_reason 74 = .ok (.iload_n 2, 1) := by decide +kernel
theorem dX6_reason_75 : decode cX6_reason 75 = .ok (.iload_n 3, 1) := by decide +kernel
theorem dX6_reason_76 : decode cX6_reason 76 = .ok (.iload 4, 2) := by decide +kernel
theorem dX6_reason_78 : decode cX6_reason 78 = .ok (.iload 5, 2) := by decide +kernel
theorem dX6_reason_80 : decode cX6_reason 80 = .ok (.invokevirtual 75, 3) := by decide +kernel
theorem dX6_reason_83 : decode cX6_reason 83 = .ok (.istore 6, 2) := by decide +kernel
theorem dX6_reason_85 : decode cX6_reason 85 = .ok (.iload 6, 2) := by decide +kernel
theorem dX6_reason_87 : decode cX6_reason 87 = .ok (.ifCond .eq 7, 3) := by decide +kernel
theorem dX6_reason_90 : decode cX6_reason 90 = .ok (.iconst 0, 1) := by decide +kernel
theorem dX6_reason_91 : decode cX6_reason 91 = .ok (.goto 22, 3) := by decide +kernel
theorem dX6_reason_94 : decode cX6_reason 94 = .ok (.iload 4, 2) := by decide +kernel
theorem dX6_reason_96 : decode cX6_reason 96 = .ok (.ifCond .eq 11, 3) := by decide +kernel
theorem dX6_reason_99 : decode cX6_reason 99 = .ok (.iload 5, 2) := by decide +kernel
theorem dX6_reason_101 : decode cX6_reason 101 = .ok (.invokestatic 47, 3) := by decide +kernel
theorem dX6_reason_104 : decode cX6_reason 104 = .ok (.ifCond .ne 7, 3) := by decide +kernel
theorem dX6_reason_107 : decode cX6_reason 107 = .ok (.iconst 5, 1) := by decide +kernel
theorem dX6_reason_108 : decode cX6_reason 108 = .ok (.goto 5, 3) := by decide +kernel
theorem dX6_reason_111 : decode cX6_reason 111 = .ok (.bipush 6, 2) := by decide +kernel
theorem dX6_reason_113 : decode cX6_reason 113 = .ok (.ireturn, 1) := by decide +kernel
set_option maxRecDepth 20000 in
theorem ggX6_isRight_X6_in : GoodIn wsX6_isRight wsX6_in := goodIn_r _ [4] (by decide +kernel) (by decide +kernel)
set_option maxRecDepth 20000 in
theorem gX6_isRight_X6_in : GoodIn wsX6_isRight (va_wsS RX6 22 yX6_in wsX6_in) := goodIn_app (goodIn_of _ (by decide +kernel)) ggX6_isRight_X6_in
set_option maxRecDepth 20000 in
theorem ggX6_isRight_X6_isHour : GoodIn wsX6_isRight wsX6_isHour := goodIn_r _ [7, 1, 2, 3, 4] (by decide +kernel) (by decide +kernel)
set_option maxRecDepth 20000 in
theorem gX6_isRight_X6_isHour : GoodIn wsX6_isRight (va_wsS RX6 82 yX6_isHour wsX6_isHour) := goodIn_app (goodIn_of _ (by decide +kernel)) ggX6_isRight_X6_isHour
theorem dX6_isRight_0 : decode cX6_isRight 0 = .ok (.iload_n 0, 1) := by decide +kernel
theorem dX6_isRight_1 : decode cX6_isRight 1 = .ok (.iconst 0, 1) := by decide +kernel
theorem dX6_isRight_2 : decode cX6_isRight 2 = .ok (.iconst 1, 1) := by decide +kernel
theorem dX6_isRight_3 : decode cX6_isRight 3 = .ok (.invokestatic 22, 3) := by decide +kernel
theorem dX6_isRight_6 : decode cX6_isRight 6 = .ok (.ifCond .eq 14, 3) := by decide +kernel
theorem dX6_isRight_9 : decode cX6_isRight 9 = .ok (.iload_n 1, 1) := by decide +kernel
theorem dX6_isRight_10 : decode cX6_isRight 10 = .ok (.invokestatic 82, 3) := by decide +kernel
theorem dX6_isRight_13 : decode cX6_isRight 13 = .ok (.ifCond .eq 7, 3) := by decide +kernel
theorem dX6_isRight_16 : decode cX6_isRight 16 = .ok (.iconst 1, 1) := by decide +kernel
theorem dX6_isRight_17 : decode cX6_isRight 17 = .ok (.goto 4, 3) := by decide +kernel
theorem dX6_isRight_20 : decode cX6_isRight 20 = .ok (.iconst 0, 1) := by decide +kernel
theorem dX6_isRight_21 : decode cX6_isRight 21 = .ok (.ireturn, 1) := by decide +kernel
set_option maxRecDepth 20000 in
theorem ggX6_wrong_X6_isHouse : GoodIn wsX6_wrong wsX6_isHouse := goodIn_r _ [5, 6, 7, 8, 4, 9, 20, 21, 22, 23, 24, 25, 26] (by decide +kernel) (by decide +kernel)
set_option maxRecDepth 20000 in
theorem gX6_wrong_X6_isHouse : GoodIn wsX6_wrong (wsV RX6 85 RX6 yX6_isHouse wsX6_isHouse) := goodIn_app (goodIn_of _ (by decide +kernel)) ggX6_wrong_X6_isHouse
set_option maxRecDepth 20000 in
theorem ggX6_wrong_X6_isMill : GoodIn wsX6_wrong wsX6_isMill := goodIn_r _ [13, 6, 7, 8, 4, 9, 20, 21, 22, 23, 24, 25, 26] (by decide +kernel) (by decide +kernel)
set_option maxRecDepth 20000 in
theorem gX6_wrong_X6_isMill : GoodIn wsX6_wrong (wsV RX6 89 RX6 yX6_isMill wsX6_isMill) := goodIn_app (goodIn_of _ (by decide +kernel)) ggX6_wrong_X6_isMill
set_option maxRecDepth 20000 in
theorem ggX6_wrong_X6_isHour : GoodIn wsX6_wrong wsX6_isHour := goodIn_r _ [16, 7, 8, 4, 9] (by decide +kernel) (by decide +kernel)
set_option maxRecDepth 20000 in
theorem gX6_wrong_X6_isHour : GoodIn wsX6_wrong (va_wsS RX6 82 yX6_isHour wsX6_isHour) := goodIn_app (goodIn_of _ (by decide +kernel)) ggX6_wrong_X6_isHour
set_option maxRecDepth 20000 in
theorem ggX6_wrong_X6_isRight : GoodIn wsX6_wrong wsX6_isRight := goodIn_r _ [19, 7, 8, 4, 9, 14, 15, 16] (by decide +kernel) (by decide +kernel)
set_option maxRecDepth 20000 in
theorem gX6_wrong_X6_isRight : GoodIn wsX6_wrong (va_wsS RX6 92 yX6_isRight wsX6_isRight) := goodIn_app (goodIn_of _ (by decide +kernel)) ggX6_wrong_X6_isRight
theorem dX6_wrong_0 : decode cX6_wrong 0 = .ok (.aload_n 0, 1) := by decide +kernel
theorem dX6_wrong_1 : decode cX6_wrong 1 = .ok (.iload_n 1, 1) := by decide +kernel
theorem dX6_wrong_2 : decode cX6_wrong 2 = .ok (.iload_n 2, 1) := by decide +kernel
theorem dX6_wrong_3 : decode cX6_wrong 3 = .ok (.invokevirtual 85, 3) := by decide +kernel
theorem dX6_wrong_6 : decode cX6_wrong 6 = .ok (.ifCond .eq 20, 3) := by decide +kernel
theorem dX6_wrong_9 : decode cX6_wrong 9 = .ok (.aload_n 0, 1) := by decide +kernel
theorem dX6_wrong_10 : decode cX6_wrong 10 = .ok (.iload_n 1, 1) := by decide +kernel
theorem dX6_wrong_11 : decode cX6_wrong 11 = .ok (.iload_n 3, 1) := by decide +kernel
theorem dX6_wrong_12 : decode cX6_wrong 12 = .ok (.invokevirtual 89, 3) := by decide +kernel
theorem dX6_wrong_15 : decode cX6_wrong 15 = .ok (.ifCond .eq 11, 3) := by decide +kernel
theorem dX6_wrong_18 : decode cX6_wrong 18 = .ok (.iload 5, 2) := by decide +kernel
theorem dX6_wrong_20 : decode cX6_wrong 20 = .ok (.invokestatic 82, 3) := by decide +kernel
theorem dX6_wrong_23 : decode cX6_wrong 23 = .ok (.ifCond .ne 5, 3) := by decide +kernel
theorem dX6_wrong_26 : decode cX6_wrong 26 = .ok (.iconst (-1), 1) := by decide +kernel
theorem dX6_wrong_27 : decode cX6_wrong 27 = .ok (.ireturn, 1) := by decide +kernel
theorem dX6_wrong_28 : decode cX6_wrong 28 = .ok (.iload 4, 2) := by decide +kernel
theorem dX6_wrong_30 : decode cX6_wrong 30 = .ok (.iload 5, 2) := by decide +kernel
theorem dX6_wrong_32 : decode cX6_wrong 32 = .ok (.invokestatic 92, 3) := by decide +kernel
theorem dX6_wrong_35 : decode cX6_wrong 35 = .ok (.ifCond .eq 7, 3) := by decide +kernel
theorem dX6_wrong_38 : decode cX6_wrong 38 = .ok (.iconst 0, 1) := by decide +kernel
theorem dX6_wrong_39 : decode cX6_wrong 39 = .ok (.goto 5, 3) := by decide +kernel
theorem dX6_wrong_42 : decode cX6_wrong 42 = .ok (.bipush (-2), 2) := by decide +kernel
theorem dX6_wrong_44 : decode cX6_wrong 44 = .ok (.ireturn, 1) := by decide +kernel
set_option maxRecDepth 20000 in
theorem ggX6_complains_X6_reason : GoodIn wsX6_complains wsX6_reason := goodIn_r _ [6, 1, 7, 8, 5, 9, 10, 11, 12, 13, 14, 15, 16, 17, 18, 19, 20, 21, 22, 23, 24, 25, 26, 27, 28, 29, 30, 31, 32, 33, 34, 35, 36, 37, 38, 39, 40, 41, 42, 43, 44, 45, 46, 47, 48, 49, 50, 51, 52, 53, 54, 59, 60, 61, 62, 63, 64, 65] (by decide +kernel) (by decide +kernel)
set_option maxRecDepth 20000 in
theorem gX6_complains_X6_reason : GoodIn wsX6_complains (wsV RX6 95 RX6 yX6_reason wsX6_reason) := goodIn_app (goodIn_of _ (by decide +kernel)) ggX6_complains_X6_reason
set_option maxRecDepth 20000 in
theorem ggX6_complains_X6_ofHouse : GoodIn wsX6_complains wsX6_ofHouse := goodIn_r _ [9] (by decide +kernel) (by decide +kernel)
set_option maxRecDepth 20000 in
theorem gX6_complains_X6_ofHouse : GoodIn wsX6_complains (va_wsS RX6 61 yX6_ofHouse wsX6_ofHouse) := goodIn_app (goodIn_of _ (by decide +kernel)) ggX6_complains_X6_ofHouse
set_option maxRecDepth 20000 in
theorem ggX6_complains_X6_stands : GoodIn wsX6_complains wsX6_stands := goodIn_r _ [12] (by decide +kernel) (by decide +kernel)
set_option maxRecDepth 20000 in
theorem gX6_complains_X6_stands : GoodIn wsX6_complains (va_wsS RX6 79 yX6_stands wsX6_stands) := goodIn_app (goodIn_of _ (by decide +kernel)) ggX6_complains_X6_stands
set_option maxRecDepth 20000 in
theorem ggX6_complains_X6_points : GoodIn wsX6_complains wsX6_points := goodIn_r _ [58, 1, 10, 11, 5, 12, 59, 60, 61, 62, 63, 64, 65] (by decide +kernel) (by decide +kernel)
set_option maxRecDepth 20000 in
theorem gX6_complains_X6_points : GoodIn wsX6_complains (wsV RX6 99 RX6 yX6_points wsX6_points) := goodIn_app (goodIn_of _ (by decide +kernel)) ggX6_complains_X6_points
set_option maxRecDepth 20000 in
theorem ggX6_complains_X6_ofMill : GoodIn wsX6_complains wsX6_ofMill := goodIn_r _ [19] (by decide +kernel) (by decide +kernel)
set_option maxRecDepth 20000 in
theorem gX6_complains_X6_ofMill : GoodIn wsX6_complains (va_wsS RX6 36 yX6_ofMill wsX6_ofMill) := goodIn_app (goodIn_of _ (by decide +kernel)) ggX6_complains_X6_ofMill
theorem dX6_complains_0 : decode cX6_complains 0 = .ok (.aload_n 0, 1) := by decide +kernel
theorem dX6_complains_1 : decode cX6_complains 1 = .ok (.iload_n 1, 1) := by decide +kernel
theorem dX6_complains_2 : decode cX6_complains 2 = .ok (.iload_n 2, 1) := by decide +kernel
theorem dX6_complains_3 : decode cX6_complains 3 = .ok (.iload_n 3, 1) := by decide +kernel
theorem dX6_complains_4 : decode cX6_complains 4 = .ok (.iload 4, 2) := by decide +kernel
theorem dX6_complains_6 : decode cX6_complains 6 = .ok (.iload 5, 2) := by decide +kernel
theorem dX6_complains_8 : decode cX6_complains 8 = .ok (.invokevirtual 95, 3) := by decide +kernel
theorem dX6_complains_11 : decode cX6_complains 11 = .ok (.istore 6, 2) := by decide +kernel
theorem dX6_complains_13 : decode cX6_complains 13 = .ok (.iload 6, 2) := by decide +kernel
theorem dX6_complains_15 : decode cX6_complains 15 = .ok (.iconst 4, 1) := by decide +kernel
theorem dX6_complains_16 : decode cX6_complains 16 = .ok (.if_icmp .lt 31, 3) := by decide +kernel
theorem dX6_complains_19 : decode cX6_complains 19 = .ok (.aload_n 0, 1) := by decide +kernel
theorem dX6_complains_20 : decode cX6_complains 20 = .ok (.getfield 7, 3) := by decide +kernel
theorem dX6_complains_23 : decode cX6_complains 23 = .ok (.iload_n 1, 1) := by decide +kernel
theorem dX6_complains_24 : decode cX6_complains 24 = .ok (.iload_n 2, 1) := by decide +kernel
theorem dX6_complains_25 : decode cX6_complains 25 = .ok (.iconst 1, 1) := by decide +kernel
theorem dX6_complains_26 : decode cX6_complains 26 = .ok (.invokestatic 61, 3) := by decide +kernel
theorem dX6_complains_29 : decode cX6_complains 29 = .ok (.dup2, 1) := by decide +kernel
theorem dX6_complains_30 : decode cX6_complains 30 = .ok (.iaload, 1) := by decide +kernel
theorem dX6_complains_31 : decode cX6_complains 31 = .ok (.iconst 1, 1) := by decide +kernel
theorem dX6_complains_32 : decode cX6_complains 32 = .ok (.iadd, 1) := by decide +kernel
theorem dX6_complains_33 : decode cX6_complains 33 = .ok (.iastore, 1) := by decide +kernel
theorem dX6_complains_34 : decode cX6_complains 34 = .ok (.aload_n 0, 1) := by decide +kernel
theorem dX6_complains_35 : decode cX6_complains 35 = .ok (.getfield 7, 3) := by decide +kernel
theorem dX6_complains_38 : decode cX6_complains 38 = .ok (.iload_n 1, 1) := by decide +kernel
theorem dX6_complains_39 : decode cX6_complains 39 = .ok (.bipush 63, 2) := by decide +kernel
theorem dX6_complains_41 : decode cX6_complains 41 = .ok (.iadd, 1) := by decide +kernel
theorem dX6_complains_42 : decode cX6_complains 42 = .ok (.dup2, 1) := by decide +kernel
theorem dX6_complains_43 : decode cX6_complains 43 = .ok (.iaload, 1) := by decide +kernel
theorem dX6_complains_44 : decode cX6_complains 44 = .ok (.iconst 1, 1) := by decide +kernel
theorem dX6_complains_45 : decode cX6_complains 45 = .ok (.iadd, 1) := by decide +kernel
theorem dX6_complains_46 : decode cX6_complains 46 = .ok (.iastore, 1) := by decide +kernel
theorem dX6_complains_47 : decode cX6_complains 47 = .ok (.iload 6, 2) := by decide +kernel
theorem dX6_complains_49 : decode cX6_complains 49 = .ok (.ifCond .le 9, 3) := by decide +kernel
theorem dX6_complains_52 : decode cX6_complains 52 = .ok (.bipush (-10), 2) := by decide +kernel
theorem dX6_complains_54 : decode cX6_complains 54 = .ok (.iload 6, 2) := by decide +kernel
theorem dX6_complains_56 : decode cX6_complains 56 = .ok (.isub, 1) := by decide +kernel
theorem dX6_complains_57 : decode cX6_complains 57 = .ok (.ireturn, 1) := by decide +kernel
theorem dX6_complains_58 : decode cX6_complains 58 = .ok (.aload_n 0, 1) := by decide +kernel
theorem dX6_complains_59 : decode cX6_complains 59 = .ok (.getfield 7, 3) := by decide +kernel
theorem dX6_complains_62 : decode cX6_complains 62 = .ok (.iload_n 1, 1) := by decide +kernel
theorem dX6_complains_63 : decode cX6_complains 63 = .ok (.iload_n 2, 1) := by decide +kernel
theorem dX6_complains_64 : decode cX6_complains 64 = .ok (.iload_n 3, 1) := by decide +kernel
theorem dX6_complains_65 : decode cX6_complains 65 = .ok (.iload 4, 2) := by decide +kernel
theorem dX6_complains_67 : decode cX6_complains 67 = .ok (.invokestatic 79, 3) := by decide +kernel
theorem dX6_complains_70 : decode cX6_complains 70 = .ok (.dup2, 1) := by decide +kernel
theorem dX6_complains_71 : decode cX6_complains 71 = .ok (.iaload, 1) := by decide +kernel
theorem dX6_complains_72 : decode cX6_complains 72 = .ok (.iconst 1, 1) := by decide +kernel
theorem dX6_complains_73 : decode cX6_complains 73 = .ok (.iload 5, 2) := by decide +kernel
theorem dX6_complains_75 : decode cX6_complains 75 = .ok (.ishl, 1) := by decide +kernel
theorem dX6_complains_76 : decode cX6_complains 76 = .ok (.ior, 1) := by decide +kernel
theorem dX6_complains_77 : decode cX6_complains 77 = .ok (.iastore, 1) := by decide +kernel
theorem dX6_complains_78 : decode cX6_complains 78 = .ok (.aload_n 0, 1) := by decide +kernel
theorem dX6_complains_79 : decode cX6_complains 79 = .ok (.getfield 7, 3) := by decide +kernel
theorem dX6_complains_82 : decode cX6_complains 82 = .ok (.iload_n 1, 1) := by decide +kernel
theorem dX6_complains_83 : decode cX6_complains 83 = .ok (.bipush 62, 2) := by decide +kernel
theorem dX6_complains_85 : decode cX6_complains 85 = .ok (.iadd, 1) := by decide +kernel
theorem dX6_complains_86 : decode cX6_complains 86 = .ok (.dup2, 1) := by decide +kernel
theorem dX6_complains_87 : decode cX6_complains 87 = .ok (.iaload, 1) := by decide +kernel
theorem dX6_complains_88 : decode cX6_complains 88 = .ok (.iconst 1, 1) := by decide +kernel
theorem dX6_complains_89 : decode cX6_complains 89 = .ok (.iadd, 1) := by decide +kernel
theorem dX6_complains_90 : decode cX6_complains 90 = .ok (.iastore, 1) := by decide +kernel
theorem dX6_complains_91 : decode cX6_complains 91 = .ok (.aload_n 0, 1) := by decide +kernel
theorem dX6_complains_92 : decode cX6_complains 92 = .ok (.iload_n 1, 1) := by decide +kernel
theorem dX6_complains_93 : decode cX6_complains 93 = .ok (.iload_n 3, 1) := by decide +kernel
theorem dX6_complains_94 : decode cX6_complains 94 = .ok (.iload 5, 2) := by decide +kernel
theorem dX6_complains_96 : decode cX6_complains 96 = .ok (.invokevirtual 99, 3) := by decide +kernel
theorem dX6_complains_99 : decode cX6_complains 99 = .ok (.istore 7, 2) := by decide +kernel
theorem dX6_complains_101 : decode cX6_complains 101 = .ok (.iload 7, 2) := by decide +kernel
theorem dX6_complains_103 : decode cX6_complains 103 = .ok (.aload_n 0, 1) := by decide +kernel
theorem dX6_complains_104 : decode cX6_complains 104 = .ok (.getfield 7, 3) := by decide +kernel
theorem dX6_complains_107 : decode cX6_complains 107 = .ok (.iload_n 1, 1) := by decide +kernel
theorem dX6_complains_108 : decode cX6_complains 108 = .ok (.bipush 58, 2) := by decide +kernel
theorem dX6_complains_110 : decode cX6_complains 110 = .ok (.iadd, 1) := by decide +kernel
theorem dX6_complains_111 : decode cX6_complains 111 = .ok (.iconst 2, 1) := by decide +kernel
theorem dX6_complains_112 : decode cX6_complains 112 = .ok (.iadd, 1) := by decide +kernel
theorem dX6_complains_113 : decode cX6_complains 113 = .ok (.iaload, 1) := by decide +kernel
theorem dX6_complains_114 : decode cX6_complains 114 = .ok (.if_icmp .lt 21, 3) := by decide +kernel
theorem dX6_complains_117 : decode cX6_complains 117 = .ok (.aload_n 0, 1) := by decide +kernel
theorem dX6_complains_118 : decode cX6_complains 118 = .ok (.getfield 7, 3) := by decide +kernel
theorem dX6_complains_121 : decode cX6_complains 121 = .ok (.iload_n 1, 1) := by decide +kernel
theorem dX6_complains_122 : decode cX6_complains 122 = .ok (.iload_n 3, 1) := by decide +kernel
theorem dX6_complains_123 : decode cX6_complains 123 = .ok (.iconst 2, 1) := by decide +kernel
theorem dX6_complains_124 : decode cX6_complains 124 = .ok (.invokestatic 36, 3) := by decide +kernel
theorem dX6_complains_127 : decode cX6_complains 127 = .ok (.dup2, 1) := by decide +kernel
theorem dX6_complains_128 : decode cX6_complains 128 = .ok (.iaload, 1) := by decide +kernel
theorem dX6_complains_129 : decode cX6_complains 129 = .ok (.iconst 1, 1) := by decide +kernel
theorem dX6_complains_130 : decode cX6_complains 130 = .ok (.iload 5, 2) := by decide +kernel
theorem dX6_complains_132 : decode cX6_complains 132 = .ok (.ishl, 1) := by decide +kernel
theorem dX6_complains_133 : decode cX6_complains 133 = .ok (.ior, 1) := by decide +kernel
theorem dX6_complains_134 : decode cX6_complains 134 = .ok (.iastore, 1) := by decide +kernel
theorem dX6_complains_135 : decode cX6_complains 135 = .ok (.iload 7, 2) := by decide +kernel
theorem dX6_complains_137 : decode cX6_complains 137 = .ok (.ireturn, 1) := by decide +kernel
set_option maxRecDepth 20000 in
theorem ggX6_complain_X6_wrong : GoodIn wsX6_complain wsX6_wrong := goodIn_r _ [5, 6, 7, 8, 4, 9, 10, 11, 12, 13, 14, 15, 16, 17, 18, 19, 20, 21, 22, 23, 95, 96, 97, 98, 99, 100, 101] (by decide +kernel) (by decide +kernel)
set_option maxRecDepth 20000 in
theorem gX6_complain_X6_wrong : GoodIn wsX6_complain (wsV RX6 102 RX6 yX6_wrong wsX6_wrong) := goodIn_app (goodIn_of _ (by decide +kernel)) ggX6_complain_X6_wrong
set_option maxRecDepth 20000 in
theorem ggX6_complain_X6_copies : GoodIn wsX6_complain wsX6_copies := goodIn_r _ [27, 10, 95, 96, 97, 98, 99, 100, 101] (by decide +kernel) (by decide +kernel)
set_option maxRecDepth 20000 in
theorem gX6_complain_X6_copies : GoodIn wsX6_complain (wsV RX6 105 RX6 yX6_copies wsX6_copies) := goodIn_app (goodIn_of _ (by decide +kernel)) ggX6_complain_X6_copies
set_option maxRecDepth 20000 in
theorem ggX6_complain_X6_complains : GoodIn wsX6_complain wsX6_complains := goodIn_r _ [31, 10, 32, 33, 34, 4, 35, 36, 37, 38, 39, 40, 41, 42, 43, 44, 45, 46, 47, 48, 49, 50, 51, 52, 53, 54, 55, 56, 57, 58, 59, 60, 61, 62, 63, 64, 65, 66, 67, 68, 69, 70, 71, 72, 73, 74, 11, 12, 13, 75, 76, 77, 78, 79, 80, 81, 82, 83, 84, 95, 96, 97, 98, 99, 100, 101] (by decide +kernel) (by decide +kernel)
set_option maxRecDepth 20000 in
theorem gX6_complain_X6_complains : GoodIn wsX6_complain (wsV RX6 108 RX6 yX6_complains wsX6_complains) := goodIn_app (goodIn_of _ (by decide +kernel)) ggX6_complain_X6_complains
set_option maxRecDepth 20000 in
theorem ggX6_complain_X6_takes : GoodIn wsX6_complain wsX6_takes := goodIn_r _ [88, 10, 89, 90, 91, 4, 92, 93, 94, 95, 96, 97, 98, 99, 100, 101] (by decide +kernel) (by decide +kernel)
set_option maxRecDepth 20000 in
theorem gX6_complain_X6_takes : GoodIn wsX6_complain (wsV RX6 33 RX6 yX6_takes wsX6_takes) := goodIn_app (goodIn_of _ (by decide +kernel)) ggX6_complain_X6_takes
theorem dX6_complain_0 : decode cX6_complain 0 = .ok (.aload_n 0, 1) := by decide +kernel
theorem dX6_complain_1 : decode cX6_complain 1 = .ok (.iconst 0, 1) := by decide +kernel
theorem dX6_complain_2 : decode cX6_complain 2 = .ok (.iload_n 1, 1) := by decide +kernel
theorem dX6_complain_3 : decode cX6_complain 3 = .ok (.iload_n 2, 1) := by decide +kernel
theorem dX6_complain_4 : decode cX6_complain 4 = .ok (.iload_n 3, 1) := by decide +kernel
theorem dX6_complain_5 : decode cX6_complain 5 = .ok (.iload 4, 2) := by decide +kernel
theorem dX6_complain_7 : decode cX6_complain 7 = .ok (.invokevirtual 102, 3) := by decide +kernel
theorem dX6_complain_10 : decode cX6_complain 10 = .ok (.istore 5, 2) := by decide +kernel
theorem dX6_complain_12 : decode cX6_complain 12 = .ok (.iload 5, 2) := by decide +kernel
theorem dX6_complain_14 : decode cX6_complain 14 = .ok (.ifCond .ge 6, 3) := by decide +kernel
theorem dX6_complain_17 : decode cX6_complain 17 = .ok (.iload 5, 2) := by decide +kernel
theorem dX6_complain_19 : decode cX6_complain 19 = .ok (.ireturn, 1) := by decide +kernel
theorem dX6_complain_20 : decode cX6_complain 20 = .ok (.aload_n 0, 1) := by decide +kernel
theorem dX6_complain_21 : decode cX6_complain 21 = .ok (.invokevirtual 105, 3) := by decide +kernel
theorem dX6_complain_24 : decode cX6_complain 24 = .ok (.aload_n 0, 1) := by decide +kernel
theorem dX6_complain_25 : decode cX6_complain 25 = .ok (.sipush 148, 3) := by decide +kernel
theorem dX6_complain_28 : decode cX6_complain 28 = .ok (.iload_n 1, 1) := by decide +kernel
theorem dX6_complain_29 : decode cX6_complain 29 = .ok (.iload_n 2, 1) := by decide +kernel
theorem dX6_complain_30 : decode cX6_complain 30 = .ok (.iload_n 3, 1) := by decide +kernel
theorem dX6_complain_31 : decode cX6_complain 31 = .ok (.iload 4, 2) := by decide +kernel
theorem dX6_complain_33 : decode cX6_complain 33 = .ok (.invokevirtual 108, 3) := by decide +kernel
theorem dX6_complain_36 : decode cX6_complain 36 = .ok (.istore 6, 2) := by decide +kernel
theorem dX6_complain_38 : decode cX6_complain 38 = .ok (.iload 6, 2) := by decide +kernel
theorem dX6_complain_40 : decode cX6_complain 40 = .ok (.ifCond .ge 10, 3) := by decide +kernel
theorem dX6_complain_43 : decode cX6_complain 43 = .ok (.iload 6, 2) := by decide +kernel
theorem dX6_complain_45 : decode cX6_complain 45 = .ok (.bipush (-14), 2) := by decide +kernel
theorem dX6_complain_47 : decode cX6_complain 47 = .ok (.if_icmp .gt 7, 3) := by decide +kernel
theorem dX6_complain_50 : decode cX6_complain 50 = .ok (.aload_n 0, 1) := by decide +kernel
theorem dX6_complain_51 : decode cX6_complain 51 = .ok (.invokevirtual 33, 3) := by decide +kernel
theorem dX6_complain_54 : decode cX6_complain 54 = .ok (.iload 6, 2) := by decide +kernel
theorem dX6_complain_56 : decode cX6_complain 56 = .ok (.ireturn, 1) := by decide +kernel
set_option maxRecDepth 20000 in
theorem ggX6_standsAny_X6_stands : GoodIn wsX6_standsAny wsX6_stands := goodIn_r _ [5] (by decide +kernel) (by decide +kernel)
set_option maxRecDepth 20000 in
theorem gX6_standsAny_X6_stands : GoodIn wsX6_standsAny (va_wsS RX6 79 yX6_stands wsX6_stands) := goodIn_app (goodIn_of _ (by decide +kernel)) ggX6_standsAny_X6_stands
theorem dX6_standsAny_0 : decode cX6_standsAny 0 = .ok (.aload_n 0, 1) := by decide +kernel
theorem dX6_standsAny_1 : decode cX6_standsAny 1 = .ok (.getfield 7, 3) := by decide +kernel
theorem dX6_standsAny_4 : decode cX6_standsAny 4 = .ok (.iconst 0, 1) := by decide +kernel
theorem dX6_standsAny_5 : decode cX6_standsAny 5 = .ok (.iload_n 1, 1) := by decide +kernel
theorem dX6_standsAny_6 : decode cX6_standsAny 6 = .ok (.iload_n 2, 1) := by decide +kernel
theorem dX6_standsAny_7 : decode cX6_standsAny 7 = .ok (.iconst 0, 1) := by decide +kernel
theorem dX6_standsAny_8 : decode cX6_standsAny 8 = .ok (.invokestatic 79, 3) := by decide +kernel
theorem dX6_standsAny_11 : decode cX6_standsAny 11 = .ok (.iaload, 1) := by decide +kernel
theorem dX6_standsAny_12 : decode cX6_standsAny 12 = .ok (.aload_n 0, 1) := by decide +kernel
theorem dX6_standsAny_13 : decode cX6_standsAny 13 = .ok (.getfield 7, 3) := by decide +kernel
theorem dX6_standsAny_16 : decode cX6_standsAny 16 = .ok (.iconst 0, 1) := by decide +kernel
theorem dX6_standsAny_17 : decode cX6_standsAny 17 = .ok (.iload_n 1, 1) := by decide +kernel
theorem dX6_standsAny_18 : decode cX6_standsAny 18 = .ok (.iload_n 2, 1) := by decide +kernel
theorem dX6_standsAny_19 : decode cX6_standsAny 19 = .ok (.iconst 1, 1) := by decide +kernel
theorem dX6_standsAny_20 : decode cX6_standsAny 20 = .ok (.invokestatic 79, 3) := by decide +kernel
theorem dX6_standsAny_23 : decode cX6_standsAny 23 = .ok (.iaload, 1) := by decide +kernel
theorem dX6_standsAny_24 : decode cX6_standsAny 24 = .ok (.ior, 1) := by decide +kernel
theorem dX6_standsAny_25 : decode cX6_standsAny 25 = .ok (.iload_n 3, 1) := by decide +kernel
theorem dX6_standsAny_26 : decode cX6_standsAny 26 = .ok (.ishr, 1) := by decide +kernel
theorem dX6_standsAny_27 : decode cX6_standsAny 27 = .ok (.iconst 1, 1) := by decide +kernel
theorem dX6_standsAny_28 : decode cX6_standsAny 28 = .ok (.iand, 1) := by decide +kernel
theorem dX6_standsAny_29 : decode cX6_standsAny 29 = .ok (.iconst 1, 1) := by decide +kernel
theorem dX6_standsAny_30 : decode cX6_standsAny 30 = .ok (.if_icmp .ne 7, 3) := by decide +kernel
theorem dX6_standsAny_33 : decode cX6_standsAny 33 = .ok (.iconst 1, 1) := by decide +kernel
theorem dX6_standsAny_34 : decode cX6_standsAny 34 = .ok (.goto 4, 3) := by decide +kernel
theorem dX6_standsAny_37 : decode cX6_standsAny 37 = .ok (.iconst 0, 1) := by decide +kernel
theorem dX6_standsAny_38 : decode cX6_standsAny 38 = .ok (.ireturn, 1) := by decide +kernel
set_option maxRecDepth 20000 in
theorem ggX6_clears_X6_stands : GoodIn wsX6_clears wsX6_stands := goodIn_r _ [5] (by decide +kernel) (by decide +kernel)
set_option maxRecDepth 20000 in
theorem gX6_clears_X6_stands : GoodIn wsX6_clears (va_wsS RX6 79 yX6_stands wsX6_stands) := goodIn_app (goodIn_of _ (by decide +kernel)) ggX6_clears_X6_stands
theorem dX6_clears_0 : decode cX6_clears 0 = .ok (.aload_n 0, 1) := by decide +kernel
theorem dX6_clears_1 : decode cX6_clears 1 = .ok (.getfield 7, 3) := by decide +kernel
theorem dX6_clears_4 : decode cX6_clears 4 = .ok (.iconst 0, 1) := by decide +kernel
theorem dX6_clears_5 : decode cX6_clears 5 = .ok (.iload_n 1, 1) := by decide +kernel
theorem dX6_clears_6 : decode cX6_clears 6 = .ok (.iload_n 2, 1) := by decide +kernel
theorem dX6_clears_7 : decode cX6_clears 7 = .ok (.iconst 0, 1) := by decide +kernel
theorem dX6_clears_8 : decode cX6_clears 8 = .ok (.invokestatic 79, 3) := by decide +kernel
theorem dX6_clears_11 : decode cX6_clears 11 = .ok (.dup2, 1) := by decide +kernel
theorem dX6_clears_12 : decode cX6_clears 12 = .ok (.iaload, 1) := by decide +kernel
theorem dX6_clears_13 : decode cX6_clears 13 = .ok (.iconst 1, 1) := by decide +kernel
theorem dX6_clears_14 : decode cX6_clears 14 = .ok (.iload_n 3, 1) := by decide +kernel
theorem dX6_clears_15 : decode cX6_clears 15 = .ok (.ishl, 1) := by decide +kernel
theorem dX6_clears_16 : decode cX6_clears 16 = .ok (.iconst (-1), 1) := by decide +kernel
theorem dX6_clears_17 : decode cX6_clears 17 = .ok (.ixor, 1) := by decide +kernel
theorem dX6_clears_18 : decode cX6_clears 18 = .ok (.iand, 1) := by decide +kernel
theorem dX6_clears_19 : decode cX6_clears 19 = .ok (.iastore, 1) := by decide +kernel
theorem dX6_clears_20 : decode cX6_clears 20 = .ok (.aload_n 0, 1) := by decide +kernel
theorem dX6_clears_21 : decode cX6_clears 21 = .ok (.getfield 7, 3) := by decide +kernel
theorem dX6_clears_24 : decode cX6_clears 24 = .ok (.iconst 0, 1) := by decide +kernel
theorem dX6_clears_25 : decode cX6_clears 25 = .ok (.iload_n 1, 1) := by decide +kernel
theorem dX6_clears_26 : decode cX6_clears 26 = .ok (.iload_n 2, 1) := by decide +kernel
theorem dX6_clears_27 : decode cX6_clears 27 = .ok (.iconst 1, 1) := by decide +kernel
theorem dX6_clears_28 : decode cX6_clears 28 = .ok (.invokestatic 79, 3) := by decide +kernel
theorem dX6_clears_31 : decode cX6_clears 31 = .ok (.dup2, 1) := by decide +kernel
theorem dX6_clears_32 : decode cX6_clears 32 = .ok (.iaload, 1) := by decide +kernel
theorem dX6_clears_33 : decode cX6_clears 33 = .ok (.iconst 1, 1) := by decide +kernel
theorem dX6_clears_34 : decode cX6_clears 34 = .ok (.iload_n 3, 1) := by decide +kernel
theorem dX6_clears_35 : decode cX6_clears 35 = .ok (.ishl, 1) := by decide +kernel
theorem dX6_clears_36 : decode cX6_clears 36 = .ok (.iconst (-1), 1) := by decide +kernel
theorem dX6_clears_37 : decode cX6_clears 37 = .ok (.ixor, 1) := by decide +kernel
theorem dX6_clears_38 : decode cX6_clears 38 = .ok (.iand, 1) := by decide +kernel
theorem dX6_clears_39 : decode cX6_clears 39 = .ok (.iastore, 1) := by decide +kernel
theorem dX6_clears_40 : decode cX6_clears 40 = .ok (.return_, 1) := by decide +kernel
set_option maxRecDepth 20000 in
theorem ggX6_sue_X6_isMill : GoodIn wsX6_sue wsX6_isMill := goodIn_r _ [6, 1, 7, 8, 5, 9, 51, 52, 53, 54, 55, 56, 57] (by decide +kernel) (by decide +kernel)
set_option maxRecDepth 20000 in
theorem gX6_sue_X6_isMill : GoodIn wsX6_sue (wsV RX6 89 RX6 yX6_isMill wsX6_isMill) := goodIn_app (goodIn_of _ (by decide +kernel)) ggX6_sue_X6_isMill
set_option maxRecDepth 20000 in
theorem ggX6_sue_X6_isHouse : GoodIn wsX6_sue wsX6_isHouse := goodIn_r _ [13, 1, 7, 8, 5, 9, 51, 52, 53, 54, 55, 56, 57] (by decide +kernel) (by decide +kernel)
set_option maxRecDepth 20000 in
theorem gX6_sue_X6_isHouse : GoodIn wsX6_sue (wsV RX6 85 RX6 yX6_isHouse wsX6_isHouse) := goodIn_app (goodIn_of _ (by decide +kernel)) ggX6_sue_X6_isHouse
set_option maxRecDepth 20000 in
theorem ggX6_sue_X6_isHour : GoodIn wsX6_sue wsX6_isHour := goodIn_r _ [16, 7, 8, 5, 9] (by decide +kernel) (by decide +kernel)
set_option maxRecDepth 20000 in
theorem gX6_sue_X6_isHour : GoodIn wsX6_sue (va_wsS RX6 82 yX6_isHour wsX6_isHour) := goodIn_app (goodIn_of _ (by decide +kernel)) ggX6_sue_X6_isHour
set_option maxRecDepth 20000 in
theorem ggX6_sue_X6_isTied : GoodIn wsX6_sue wsX6_isTied := goodIn_r _ [20, 1, 21, 22, 5, 23, 51, 52, 53, 54, 55, 56, 57] (by decide +kernel) (by decide +kernel)
set_option maxRecDepth 20000 in
theorem gX6_sue_X6_isTied : GoodIn wsX6_sue (wsV RX6 40 RX6 yX6_isTied wsX6_isTied) := goodIn_app (goodIn_of _ (by decide +kernel)) ggX6_sue_X6_isTied
set_option maxRecDepth 20000 in
theorem ggX6_sue_X6_standsAny : GoodIn wsX6_sue wsX6_standsAny := goodIn_r _ [27, 1, 28, 29, 5, 30, 51, 52, 53, 54, 55, 56, 57] (by decide +kernel) (by decide +kernel)
set_option maxRecDepth 20000 in
theorem gX6_sue_X6_standsAny : GoodIn wsX6_sue (wsV RX6 111 RX6 yX6_standsAny wsX6_standsAny) := goodIn_app (goodIn_of _ (by decide +kernel)) ggX6_sue_X6_standsAny
set_option maxRecDepth 20000 in
theorem ggX6_sue_X6_remembers : GoodIn wsX6_sue wsX6_remembers := goodIn_r _ [34, 35, 36, 1, 51, 52, 53, 54, 55, 56, 57] (by decide +kernel) (by decide +kernel)
set_option maxRecDepth 20000 in
theorem gX6_sue_X6_remembers : GoodIn wsX6_sue (wsV RX6 30 RX6 yX6_remembers wsX6_remembers) := goodIn_app (goodIn_of _ (by decide +kernel)) ggX6_sue_X6_remembers
set_option maxRecDepth 20000 in
theorem ggX6_sue_X6_ofMill : GoodIn wsX6_sue wsX6_ofMill := goodIn_r _ [23] (by decide +kernel) (by decide +kernel)
set_option maxRecDepth 20000 in
theorem gX6_sue_X6_ofMill : GoodIn wsX6_sue (va_wsS RX6 36 yX6_ofMill wsX6_ofMill) := goodIn_app (goodIn_of _ (by decide +kernel)) ggX6_sue_X6_ofMill
set_option maxRecDepth 20000 in
theorem ggX6_sue_X6_ones : GoodIn wsX6_sue wsX6_ones := goodIn_r _ [39] (by decide +kernel) (by decide +kernel)
set_option maxRecDepth 20000 in
theorem gX6_sue_X6_ones : GoodIn wsX6_sue (va_wsS RX6 114 yX6_ones wsX6_ones) := goodIn_app (goodIn_of _ (by decide +kernel)) ggX6_sue_X6_ones
set_option maxRecDepth 20000 in
theorem ggX6_sue_X6_ofHouse : GoodIn wsX6_sue wsX6_ofHouse := goodIn_r _ [42] (by decide +kernel) (by decide +kernel)
set_option maxRecDepth 20000 in
theorem gX6_sue_X6_ofHouse : GoodIn wsX6_sue (va_wsS RX6 61 yX6_ofHouse wsX6_ofHouse) := goodIn_app (goodIn_of _ (by decide +kernel)) ggX6_sue_X6_ofHouse
set_option maxRecDepth 20000 in
theorem ggX6_sue_X6_clears : GoodIn wsX6_sue wsX6_clears := goodIn_r _ [46, 1, 28, 29, 5, 30, 51, 52, 53, 54, 55, 56, 57] (by decide +kernel) (by decide +kernel)
set_option maxRecDepth 20000 in
theorem gX6_sue_X6_clears : GoodIn wsX6_sue (wsV RX6 117 RX6 yX6_clears wsX6_clears) := goodIn_app (goodIn_of _ (by decide +kernel)) ggX6_sue_X6_clears
set_option maxRecDepth 20000 in
theorem ggX6_sue_X6_points : GoodIn wsX6_sue wsX6_points := goodIn_r _ [50, 1, 28, 29, 5, 30, 51, 52, 53, 54, 55, 56, 57] (by decide +kernel) (by decide +kernel)
set_option maxRecDepth 20000 in
theorem gX6_sue_X6_points : GoodIn wsX6_sue (wsV RX6 99 RX6 yX6_points wsX6_points) := goodIn_app (goodIn_of _ (by decide +kernel)) ggX6_sue_X6_points
theorem dX6_sue_0 : decode cX6_sue 0 = .ok (.aload_n 0, 1) := by decide +kernel
theorem dX6_sue_1 : decode cX6_sue 1 = .ok (.iconst 0, 1) := by decide +kernel
theorem dX6_sue_2 : decode cX6_sue 2 = .ok (.iload_n 1, 1) := by decide +kernel
theorem dX6_sue_3 : decode cX6_sue 3 = .ok (.invokevirtual 89, 3) := by decide +kernel
theorem dX6_sue_6 : decode cX6_sue 6 = .ok (.ifCond .eq 19, 3) := by decide +kernel
theorem dX6_sue_9 : decode cX6_sue 9 = .ok (.aload_n 0, 1) := by decide +kernel
theorem dX6_sue_10 : decode cX6_sue 10 = .ok (.iconst 0, 1) := by decide +kernel
theorem dX6_sue_11 : decode cX6_sue 11 = .ok (.iload_n 2, 1) := by decide +kernel
theorem dX6_sue_12 : decode cX6_sue 12 = .ok (.invokevirtual 85, 3) := by decide +kernel
theorem dX6_sue_15 : decode cX6_sue 15 = .ok (.ifCond .eq 10, 3) := by decide +kernel
theorem dX6_sue_18 : decode cX6_sue 18 = .ok (.iload_n 3, 1) := by decide +kernel
theorem dX6_sue_19 : decode cX6_sue 19 = .ok (.invokestatic 82, 3) := by decide +kernel
theorem dX6_sue_22 : decode cX6_sue 22 = .ok (.ifCond .ne 5, 3) := by decide +kernel
theorem dX6_sue_25 : decode cX6_sue 25 = .ok (.iconst (-1), 1) := by decide +kernel
theorem dX6_sue_26 : decode cX6_sue 26 = .ok (.ireturn, 1) := by decide +kernel
theorem dX6_sue_27 : decode cX6_sue 27 = .ok (.aload_n 0, 1) := by decide +kernel
theorem dX6_sue_28 : decode cX6_sue 28 = .ok (.iconst 0, 1) := by decide +kernel
theorem dX6_sue_29 : decode cX6_sue 29 = .ok (.iload_n 1, 1) := by decide +kernel
theorem dX6_sue_30 : decode cX6_sue 30 = .ok (.iload_n 3, 1) := by decide +kernel
theorem dX6_sue_31 : decode cX6_sue 31 = .ok (.invokevirtual 40, 3) := by decide +kernel
theorem dX6_sue_34 : decode cX6_sue 34 = .ok (.ifCond .eq 13, 3) := by decide +kernel
theorem dX6_sue_37 : decode cX6_sue 37 = .ok (.aload_n 0, 1) := by decide +kernel
theorem dX6_sue_38 : decode cX6_sue 38 = .ok (.iload_n 2, 1) := by decide +kernel
theorem dX6_sue_39 : decode cX6_sue 39 = .ok (.iload_n 1, 1) := by decide +kernel
theorem dX6_sue_40 : decode cX6_sue 40 = .ok (.iload_n 3, 1) := by decide +kernel
theorem dX6_sue_41 : decode cX6_sue 41 = .ok (.invokevirtual 111, 3) := by decide +kernel
theorem dX6_sue_44 : decode cX6_sue 44 = .ok (.ifCond .ne 6, 3) := by decide +kernel
theorem dX6_sue_47 : decode cX6_sue 47 = .ok (.bipush (-4), 2) := by decide +kernel
theorem dX6_sue_49 : decode cX6_sue 49 = .ok (.ireturn, 1) := by decide +kernel
theorem dX6_sue_50 : decode cX6_sue 50 = .ok (.aload_n 0, 1) := by decide +kernel
theorem dX6_sue_51 : decode cX6_sue 51 = .ok (.invokevirtual 30, 3) := by decide +kernel
theorem dX6_sue_54 : decode cX6_sue 54 = .ok (.aload_n 0, 1) := by decide +kernel
theorem dX6_sue_55 : decode cX6_sue 55 = .ok (.getfield 7, 3) := by decide +kernel
theorem dX6_sue_58 : decode cX6_sue 58 = .ok (.bipush 64, 2) := by decide +kernel
theorem dX6_sue_60 : decode cX6_sue 60 = .ok (.dup2, 1) := by decide +kernel
theorem dX6_sue_61 : decode cX6_sue 61 = .ok (.iaload, 1) := by decide +kernel
theorem dX6_sue_62 : decode cX6_sue 62 = .ok (.iconst 1, 1) := by decide +kernel
theorem dX6_sue_63 : decode cX6_sue 63 = .ok (.iadd, 1) := by decide +kernel
theorem dX6_sue_64 : decode cX6_sue 64 = .ok (.iastore, 1) := by decide +kernel
theorem dX6_sue_65 : decode cX6_sue 65 = .ok (.aload_n 0, 1) := by decide +kernel
theorem dX6_sue_66 : decode cX6_sue 66 = .ok (.getfield 7, 3) := by decide +kernel
theorem dX6_sue_69 : decode cX6_sue 69 = .ok (.bipush 34, 2) := by decide +kernel
theorem dX6_sue_71 : decode cX6_sue 71 = .ok (.iload_n 3, 1) := by decide +kernel
theorem dX6_sue_72 : decode cX6_sue 72 = .ok (.iadd, 1) := by decide +kernel
theorem dX6_sue_73 : decode cX6_sue 73 = .ok (.iaload, 1) := by decide +kernel
theorem dX6_sue_74 : decode cX6_sue 74 = .ok (.aload_n 0, 1) := by decide +kernel
theorem dX6_sue_75 : decode cX6_sue 75 = .ok (.getfield 7, 3) := by decide +kernel
theorem dX6_sue_78 : decode cX6_sue 78 = .ok (.iconst 0, 1) := by decide +kernel
theorem dX6_sue_79 : decode cX6_sue 79 = .ok (.iload_n 1, 1) := by decide +kernel
theorem dX6_sue_80 : decode cX6_sue 80 = .ok (.iconst 2, 1) := by decide +kernel
theorem dX6_sue_81 : decode cX6_sue 81 = .ok (.invokestatic 36, 3) := by decide +kernel
theorem dX6_sue_84 : decode cX6_sue 84 = .ok (.iaload, 1) := by decide +kernel
theorem dX6_sue_85 : decode cX6_sue 85 = .ok (.invokestatic 114, 3) := by decide +kernel
theorem dX6_sue_88 : decode cX6_sue 88 = .ok (.imul, 1) := by decide +kernel
theorem dX6_sue_89 : decode cX6_sue 89 = .ok (.aload_n 0, 1) := by decide +kernel
theorem dX6_sue_90 : decode cX6_sue 90 = .ok (.getfield 7, 3) := by decide +kernel
theorem dX6_sue_93 : decode cX6_sue 93 = .ok (.bipush 61, 2) := by decide +kernel
theorem dX6_sue_95 : decode cX6_sue 95 = .ok (.iaload, 1) := by decide +kernel
theorem dX6_sue_96 : decode cX6_sue 96 = .ok (.if_icmp .gt 5, 3) := by decide +kernel
theorem dX6_sue_99 : decode cX6_sue 99 = .ok (.iconst 0, 1) := by decide +kernel
theorem dX6_sue_100 : decode cX6_sue 100 = .ok (.ireturn, 1) := by decide +kernel
theorem dX6_sue_101 : decode cX6_sue 101 = .ok (.aload_n 0, 1) := by decide +kernel
theorem dX6_sue_102 : decode cX6_sue 102 = .ok (.getfield 7, 3) := by decide +kernel
theorem dX6_sue_105 : decode cX6_sue 105 = .ok (.bipush 65, 2) := by decide +kernel
theorem dX6_sue_107 : decode cX6_sue 107 = .ok (.dup2, 1) := by decide +kernel
theorem dX6_sue_108 : decode cX6_sue 108 = .ok (.iaload, 1) := by decide +kernel
theorem dX6_sue_109 : decode cX6_sue 109 = .ok (.iconst 1, 1) := by decide +kernel
theorem dX6_sue_110 : decode cX6_sue 110 = .ok (.iadd, 1) := by decide +kernel
theorem dX6_sue_111 : decode cX6_sue 111 = .ok (.iastore, 1) := by decide +kernel
theorem dX6_sue_112 : decode cX6_sue 112 = .ok (.aload_n 0, 1) := by decide +kernel
theorem dX6_sue_113 : decode cX6_sue 113 = .ok (.getfield 7, 3) := by decide +kernel
theorem dX6_sue_116 : decode cX6_sue 116 = .ok (.iconst 0, 1) := by decide +kernel
theorem dX6_sue_117 : decode cX6_sue 117 = .ok (.iload_n 2, 1) := by decide +kernel
theorem dX6_sue_118 : decode cX6_sue 118 = .ok (.iconst 1, 1) := by decide +kernel
theorem dX6_sue_119 : decode cX6_sue 119 = .ok (.invokestatic 61, 3) := by decide +kernel
theorem dX6_sue_122 : decode cX6_sue 122 = .ok (.dup2, 1) := by decide +kernel
theorem dX6_sue_123 : decode cX6_sue 123 = .ok (.iaload, 1) := by decide +kernel
theorem dX6_sue_124 : decode cX6_sue 124 = .ok (.iconst 1, 1) := by decide +kernel
theorem dX6_sue_125 : decode cX6_sue 125 = .ok (.iadd, 1) := by decide +kernel
theorem dX6_sue_126 : decode cX6_sue 126 = .ok (.iastore, 1) := by decide +kernel
theorem dX6_sue_127 : decode cX6_sue 127 = .ok (.aload_n 0, 1) := by decide +kernel
theorem dX6_sue_128 : decode cX6_sue 128 = .ok (.iload_n 2, 1) := by decide +kernel
theorem dX6_sue_129 : decode cX6_sue 129 = .ok (.iload_n 1, 1) := by decide +kernel
theorem dX6_sue_130 : decode cX6_sue 130 = .ok (.iload_n 3, 1) := by decide +kernel
theorem dX6_sue_131 : decode cX6_sue 131 = .ok (.invokevirtual 117, 3) := by decide +kernel
theorem dX6_sue_134 : decode cX6_sue 134 = .ok (.aload_n 0, 1) := by decide +kernel
theorem dX6_sue_135 : decode cX6_sue 135 = .ok (.iconst 0, 1) := by decide +kernel
theorem dX6_sue_136 : decode cX6_sue 136 = .ok (.iload_n 1, 1) := by decide +kernel
theorem dX6_sue_137 : decode cX6_sue 137 = .ok (.iload_n 3, 1) := by decide +kernel
theorem dX6_sue_138 : decode cX6_sue 138 = .ok (.invokevirtual 99, 3) := by decide +kernel
theorem dX6_sue_141 : decode cX6_sue 141 = .ok (.aload_n 0, 1) := by decide +kernel
theorem dX6_sue_142 : decode cX6_sue 142 = .ok (.getfield 7, 3) := by decide +kernel
theorem dX6_sue_145 : decode cX6_sue 145 = .ok (.bipush 60, 2) := by decide +kernel
theorem dX6_sue_147 : decode cX6_sue 147 = .ok (.iaload, 1) := by decide +kernel
theorem dX6_sue_148 : decode cX6_sue 148 = .ok (.if_icmp .ge 22, 3) := by decide +kernel
theorem dX6_sue_151 : decode cX6_sue 151 = .ok (.aload_n 0, 1) := by decide +kernel
theorem dX6_sue_152 : decode cX6_sue 152 = .ok (.getfield 7, 3) := by decide +kernel
theorem dX6_sue_155 : decode cX6_sue 155 = .ok (.iconst 0, 1) := by decide +kernel
theorem dX6_sue_156 : decode cX6_sue 156 = .ok (.iload_n 1, 1) := by decide +kernel
theorem dX6_sue_157 : decode cX6_sue 157 = .ok (.iconst 2, 1) := by decide +kernel
theorem dX6_sue_158 : decode cX6_sue 158 = .ok (.invokestatic 36, 3) := by decide +kernel
theorem dX6_sue_161 : decode cX6_sue 161 = .ok (.dup2, 1) := by decide +kernel
theorem dX6_sue_162 : decode cX6_sue 162 = .ok (.iaload, 1) := by decide +kernel
theorem dX6_sue_163 : decode cX6_sue 163 = .ok (.iconst 1, 1) := by decide +kernel
theorem dX6_sue_164 : decode cX6_sue 164 = .ok (.iload_n 3, 1) := by decide +kernel
theorem dX6_sue_165 : decode cX6_sue 165 = .ok (.ishl, 1) := by decide +kernel
theorem dX6_sue_166 : decode cX6_sue 166 = .ok (.iconst (-1), 1) := by decide +kernel
theorem dX6_sue_167 : decode cX6_sue 167 = .ok (.ixor, 1) := by decide +kernel
theorem dX6_sue_168 : decode cX6_sue 168 = .ok (.iand, 1) := by decide +kernel
theorem dX6_sue_169 : decode cX6_sue 169 = .ok (.iastore, 1) := by decide +kernel
theorem dX6_sue_170 : decode cX6_sue 170 = .ok (.iconst 1, 1) := by decide +kernel
theorem dX6_sue_171 : decode cX6_sue 171 = .ok (.ireturn, 1) := by decide +kernel
set_option maxRecDepth 20000 in
theorem ggX6_votes_X6_wouldTroubleAny : GoodIn wsX6_votes wsX6_wouldTroubleAny := goodIn_r _ [6, 7, 8, 9, 5, 10, 1, 11, 12, 13, 14, 15, 16, 17, 18, 19, 20, 21, 22, 23, 24, 25, 26, 27, 28, 29, 30, 31, 32, 33, 34, 35, 36, 37, 38, 39, 40, 41, 42, 43, 44, 45, 46, 47, 48, 49, 50, 51, 52, 53, 54] (by decide +kernel) (by decide +kernel)
set_option maxRecDepth 20000 in
theorem gX6_votes_X6_wouldTroubleAny : GoodIn wsX6_votes (wsV RX6 121 RX6 yX6_wouldTroubleAny wsX6_wouldTroubleAny) := goodIn_app (goodIn_of _ (by decide +kernel)) ggX6_votes_X6_wouldTroubleAny
theorem dX6_votes_0 : decode cX6_votes 0 = .ok (.iconst 0, 1) := by decide +kernel
theorem dX6_votes_1 : decode cX6_votes 1 = .ok (.istore_n 3, 1) := by decide +kernel
theorem dX6_votes_2 : decode cX6_votes 2 = .ok (.iconst 0, 1) := by decide +kernel
theorem dX6_votes_3 : decode cX6_votes 3 = .ok (.istore 4, 2) := by decide +kernel
theorem dX6_votes_5 : decode cX6_votes 5 = .ok (.iload 4, 2) := by decide +kernel
theorem dX6_votes_7 : decode cX6_votes 7 = .ok (.aload_n 0, 1) := by decide +kernel
theorem dX6_votes_8 : decode cX6_votes 8 = .ok (.getfield 7, 3) := by decide +kernel
theorem dX6_votes_11 : decode cX6_votes 11 = .ok (.bipush 13, 2) := by decide +kernel
theorem dX6_votes_13 : decode cX6_votes 13 = .ok (.iaload, 1) := by decide +kernel
theorem dX6_votes_14 : decode cX6_votes 14 = .ok (.if_icmp .ge 29, 3) := by decide +kernel
theorem dX6_votes_17 : decode cX6_votes 17 = .ok (.iload_n 3, 1) := by decide +kernel
theorem dX6_votes_18 : decode cX6_votes 18 = .ok (.aload_n 0, 1) := by decide +kernel
theorem dX6_votes_19 : decode cX6_votes 19 = .ok (.iconst 0, 1) := by decide +kernel
theorem dX6_votes_20 : decode cX6_votes 20 = .ok (.iload 4, 2) := by decide +kernel
theorem dX6_votes_22 : decode cX6_votes 22 = .ok (.iload_n 1, 1) := by decide +kernel
theorem dX6_votes_23 : decode cX6_votes 23 = .ok (.iload_n 2, 1) := by decide +kernel
theorem dX6_votes_24 : decode cX6_votes 24 = .ok (.invokevirtual 121, 3) := by decide +kernel
theorem dX6_votes_27 : decode cX6_votes 27 = .ok (.ifCond .eq 7, 3) := by decide +kernel
theorem dX6_votes_30 : decode cX6_votes 30 = .ok (.iconst 0, 1) := by decide +kernel
theorem dX6_votes_31 : decode cX6_votes 31 = .ok (.goto 4, 3) := by decide +kernel
theorem dX6_votes_34 : decode cX6_votes 34 = .ok (.iconst 1, 1) := by decide +kernel
theorem dX6_votes_35 : decode cX6_votes 35 = .ok (.iadd, 1) := by decide +kernel
theorem dX6_votes_36 : decode cX6_votes 36 = .ok (.istore_n 3, 1) := by decide +kernel
theorem dX6_votes_37 : decode cX6_votes 37 = .ok (.iinc 4 1, 3) := by decide +kernel
theorem dX6_votes_40 : decode cX6_votes 40 = .ok (.goto (-35), 3) := by decide +kernel
theorem dX6_votes_43 : decode cX6_votes 43 = .ok (.iload_n 3, 1) := by decide +kernel
theorem dX6_votes_44 : decode cX6_votes 44 = .ok (.ireturn, 1) := by decide +kernel
set_option maxRecDepth 20000 in
theorem ggX6_vote_X6_isMill : GoodIn wsX6_vote wsX6_isMill := goodIn_r _ [6, 1, 7, 8, 5, 9, 76, 77, 78, 79, 80, 81, 82] (by decide +kernel) (by decide +kernel)
set_option maxRecDepth 20000 in
theorem gX6_vote_X6_isMill : GoodIn wsX6_vote (wsV RX6 89 RX6 yX6_isMill wsX6_isMill) := goodIn_app (goodIn_of _ (by decide +kernel)) ggX6_vote_X6_isMill
set_option maxRecDepth 20000 in
theorem ggX6_vote_X6_isHour : GoodIn wsX6_vote wsX6_isHour := goodIn_r _ [12, 7, 8, 5, 9] (by decide +kernel) (by decide +kernel)
set_option maxRecDepth 20000 in
theorem gX6_vote_X6_isHour : GoodIn wsX6_vote (va_wsS RX6 82 yX6_isHour wsX6_isHour) := goodIn_app (goodIn_of _ (by decide +kernel)) ggX6_vote_X6_isHour
set_option maxRecDepth 20000 in
theorem ggX6_vote_X6_isTied : GoodIn wsX6_vote wsX6_isTied := goodIn_r _ [16, 1, 17, 18, 5, 19, 76, 77, 78, 79, 80, 81, 82] (by decide +kernel) (by decide +kernel)
set_option maxRecDepth 20000 in
theorem gX6_vote_X6_isTied : GoodIn wsX6_vote (wsV RX6 40 RX6 yX6_isTied wsX6_isTied) := goodIn_app (goodIn_of _ (by decide +kernel)) ggX6_vote_X6_isTied
set_option maxRecDepth 20000 in
theorem ggX6_vote_X6_remembers : GoodIn wsX6_vote wsX6_remembers := goodIn_r _ [23, 24, 25, 1, 76, 77, 78, 79, 80, 81, 82] (by decide +kernel) (by decide +kernel)
set_option maxRecDepth 20000 in
theorem gX6_vote_X6_remembers : GoodIn wsX6_vote (wsV RX6 30 RX6 yX6_remembers wsX6_remembers) := goodIn_app (goodIn_of _ (by decide +kernel)) ggX6_vote_X6_remembers
set_option maxRecDepth 20000 in
theorem ggX6_vote_X6_votes : GoodIn wsX6_vote wsX6_votes := goodIn_r _ [29, 1, 30, 31, 32, 5, 33, 34, 35, 36, 37, 38, 39, 40, 41, 42, 43, 44, 17, 18, 19, 45, 46, 47, 48, 49, 50, 51, 52, 53, 54, 55, 56, 57, 58, 59, 60, 61, 62, 7, 8, 9, 63, 64, 65, 66, 67, 68, 76, 77, 78, 79, 80, 81, 82] (by decide +kernel) (by decide +kernel)
set_option maxRecDepth 20000 in
theorem gX6_vote_X6_votes : GoodIn wsX6_vote (wsV RX6 124 RX6 yX6_votes wsX6_votes) := goodIn_app (goodIn_of _ (by decide +kernel)) ggX6_vote_X6_votes
set_option maxRecDepth 20000 in
theorem ggX6_vote_X6_ofMill : GoodIn wsX6_vote wsX6_ofMill := goodIn_r _ [19] (by decide +kernel) (by decide +kernel)
set_option maxRecDepth 20000 in
theorem gX6_vote_X6_ofMill : GoodIn wsX6_vote (va_wsS RX6 36 yX6_ofMill wsX6_ofMill) := goodIn_app (goodIn_of _ (by decide +kernel)) ggX6_vote_X6_ofMill
set_option maxRecDepth 20000 in
theorem ggX6_vote_X6_clears : GoodIn wsX6_vote wsX6_clears := goodIn_r _ [72, 1, 73, 74, 5, 75, 76, 77, 78, 79, 80, 81, 82] (by decide +kernel) (by decide +kernel)
set_option maxRecDepth 20000 in
theorem gX6_vote_X6_clears : GoodIn wsX6_vote (wsV RX6 117 RX6 yX6_clears wsX6_clears) := goodIn_app (goodIn_of _ (by decide +kernel)) ggX6_vote_X6_clears
theorem dX6_vote_0 : decode cX6_vote 0 = .ok (.aload_n 0, 1) := by decide +kernel
theorem dX6_vote_1 : decode cX6_vote 1 = .ok (.iconst 0, 1) := by decide +kernel
theorem dX6_vote_2 : decode cX6_vote 2 = .ok (.iload_n 1, 1) := by decide +kernel
theorem dX6_vote_3 : decode cX6_vote 3 = .ok (.invokevirtual 89, 3) := by decide +kernel
theorem dX6_vote_6 : decode cX6_vote 6 = .ok (.ifCond .eq 10, 3) := by decide +kernel
theorem dX6_vote_9 : decode cX6_vote 9 = .ok (.iload_n 2, 1) := by decide +kernel
theorem dX6_vote_10 : decode cX6_vote 10 = .ok (.invokestatic 82, 3) := by decide +kernel
theorem dX6_vote_13 : decode cX6_vote 13 = .ok (.ifCond .ne 5, 3) := by decide +kernel
theorem dX6_vote_16 : decode cX6_vote 16 = .ok (.iconst (-1), 1) := by decide +kernel
theorem dX6_vote_17 : decode cX6_vote 17 = .ok (.ireturn, 1) := by decide +kernel
theorem dX6_vote_18 : decode cX6_vote 18 = .ok (.aload_n 0, 1) := by decide +kernel
theorem dX6_vote_19 : decode cX6_vote 19 = .ok (.iconst 0, 1) := by decide +kernel
theorem dX6_vote_20 : decode cX6_vote 20 = .ok (.iload_n 1, 1) := by decide +kernel
theorem dX6_vote_21 : decode cX6_vote 21 = .ok (.iload_n 2, 1) := by decide +kernel
theorem dX6_vote_22 : decode cX6_vote 22 = .ok (.invokevirtual 40, 3) := by decide +kernel
theorem dX6_vote_25 : decode cX6_vote 25 = .ok (.ifCond .eq 13, 3) := by decide +kernel
theorem dX6_vote_28 : decode cX6_vote 28 = .ok (.aload_n 0, 1) := by decide +kernel
theorem dX6_vote_29 : decode cX6_vote 29 = .ok (.getfield 7, 3) := by decide +kernel
theorem dX6_vote_32 : decode cX6_vote 32 = .ok (.bipush 13, 2) := by decide +kernel
theorem dX6_vote_34 : decode cX6_vote 34 = .ok (.iaload, 1) := by decide +kernel
theorem dX6_vote_35 : decode cX6_vote 35 = .ok (.ifCond .ne 6, 3) := by decide +kernel
theorem dX6_vote_38 : decode cX6_vote 38 = .ok (.bipush (-4), 2) := by decide +kernel
theorem dX6_vote_40 : decode cX6_vote 40 = .ok (.ireturn, 1) := by decide +kernel
theorem dX6_vote_41 : decode cX6_vote 41 = .ok (.aload_n 0, 1) := by decide +kernel
theorem dX6_vote_42 : decode cX6_vote 42 = .ok (.invokevirtual 30, 3) := by decide +kernel
theorem dX6_vote_45 : decode cX6_vote 45 = .ok (.aload_n 0, 1) := by decide +kernel
theorem dX6_vote_46 : decode cX6_vote 46 = .ok (.getfield 7, 3) := by decide +kernel
theorem dX6_vote_49 : decode cX6_vote 49 = .ok (.bipush 66, 2) := by decide +kernel
theorem dX6_vote_51 : decode cX6_vote 51 = .ok (.dup2, 1) := by decide +kernel
theorem dX6_vote_52 : decode cX6_vote 52 = .ok (.iaload, 1) := by decide +kernel
theorem dX6_vote_53 : decode cX6_vote 53 = .ok (.iconst 1, 1) := by decide +kernel
theorem dX6_vote_54 : decode cX6_vote 54 = .ok (.iadd, 1) := by decide +kernel
theorem dX6_vote_55 : decode cX6_vote 55 = .ok (.iastore, 1) := by decide +kernel
theorem dX6_vote_56 : decode cX6_vote 56 = .ok (.aload_n 0, 1) := by decide +kernel
theorem dX6_vote_57 : decode cX6_vote 57 = .ok (.iload_n 1, 1) := by decide +kernel
theorem dX6_vote_58 : decode cX6_vote 58 = .ok (.iload_n 2, 1) := by decide +kernel
theorem dX6_vote_59 : decode cX6_vote 59 = .ok (.invokevirtual 124, 3) := by decide +kernel
theorem dX6_vote_62 : decode cX6_vote 62 = .ok (.istore_n 3, 1) := by decide +kernel
theorem dX6_vote_63 : decode cX6_vote 63 = .ok (.iconst 2, 1) := by decide +kernel
theorem dX6_vote_64 : decode cX6_vote 64 = .ok (.iload_n 3, 1) := by decide +kernel
theorem dX6_vote_65 : decode cX6_vote 65 = .ok (.imul, 1) := by decide +kernel
theorem dX6_vote_66 : decode cX6_vote 66 = .ok (.aload_n 0, 1) := by decide +kernel
theorem dX6_vote_67 : decode cX6_vote 67 = .ok (.getfield 7, 3) := by decide +kernel
theorem dX6_vote_70 : decode cX6_vote 70 = .ok (.bipush 13, 2) := by decide +kernel
theorem dX6_vote_72 : decode cX6_vote 72 = .ok (.iaload, 1) := by decide +kernel
theorem dX6_vote_73 : decode cX6_vote 73 = .ok (.if_icmp .le 57, 3) := by decide +kernel
theorem dX6_vote_76 : decode cX6_vote 76 = .ok (.aload_n 0, 1) := by decide +kernel
theorem dX6_vote_77 : decode cX6_vote 77 = .ok (.getfield 7, 3) := by decide +kernel
theorem dX6_vote_80 : decode cX6_vote 80 = .ok (.bipush 67, 2) := by decide +kernel
theorem dX6_vote_82 : decode cX6_vote 82 = .ok (.dup2, 1) := by decide +kernel
theorem dX6_vote_83 : decode cX6_vote 83 = .ok (.iaload, 1) := by decide +kernel
theorem dX6_vote_84 : decode cX6_vote 84 = .ok (.iconst 1, 1) := by decide +kernel
theorem dX6_vote_85 : decode cX6_vote 85 = .ok (.iadd, 1) := by decide +kernel
theorem dX6_vote_86 : decode cX6_vote 86 = .ok (.iastore, 1) := by decide +kernel
theorem dX6_vote_87 : decode cX6_vote 87 = .ok (.aload_n 0, 1) := by decide +kernel
theorem dX6_vote_88 : decode cX6_vote 88 = .ok (.getfield 7, 3) := by decide +kernel
theorem dX6_vote_91 : decode cX6_vote 91 = .ok (.iconst 0, 1) := by decide +kernel
theorem dX6_vote_92 : decode cX6_vote 92 = .ok (.iload_n 1, 1) := by decide +kernel
theorem dX6_vote_93 : decode cX6_vote 93 = .ok (.iconst 2, 1) := by decide +kernel
theorem dX6_vote_94 : decode cX6_vote 94 = .ok (.invokestatic 36, 3) := by decide +kernel
theorem dX6_vote_97 : decode cX6_vote 97 = .ok (.dup2, 1) := by decide +kernel
theorem dX6_vote_98 : decode cX6_vote 98 = .ok (.iaload, 1) := by decide +kernel
theorem dX6_vote_99 : decode cX6_vote 99 = .ok (.iconst 1, 1) := by decide +kernel
theorem dX6_vote_100 : decode cX6_vote 100 = .ok (.iload_n 2, 1) := by decide +kernel
theorem dX6_vote_101 : decode cX6_vote 101 = .ok (.ishl, 1) := by decide +kernel
theorem dX6_vote_102 : decode cX6_vote 102 = .ok (.iconst (-1), 1) := by decide +kernel
theorem dX6_vote_103 : decode cX6_vote 103 = .ok (.ixor, 1) := by decide +kernel
theorem dX6_vote_104 : decode cX6_vote 104 = .ok (.iand, 1) := by decide +kernel
theorem dX6_vote_105 : decode cX6_vote 105 = .ok (.iastore, 1) := by decide +kernel
theorem dX6_vote_106 : decode cX6_vote 106 = .ok (.iconst 0, 1) := by decide +kernel
theorem dX6_vote_107 : decode cX6_vote 107 = .ok (.istore 4, 2) := by decide +kernel
theorem dX6_vote_109 : decode cX6_vote 109 = .ok (.iload 4, 2) := by decide +kernel
theorem dX6_vote_111 : decode cX6_vote 111 = .ok (.bipush 10, 2) := by decide +kernel
theorem dX6_vote_113 : decode cX6_vote 113 = .ok (.if_icmp .ge 17, 3) := by decide +kernel
theorem dX6_vote_116 : decode cX6_vote 116 = .ok (.aload_n 0, 1) := by decide +kernel
theorem dX6_vote_117 : decode cX6_vote 117 = .ok (.iload 4, 2) := by decide +kernel
theorem dX6_vote_119 : decode cX6_vote 119 = .ok (.iload_n 1, 1) := by decide +kernel
theorem dX6_vote_120 : decode cX6_vote 120 = .ok (.iload_n 2, 1) := by decide +kernel
theorem dX6_vote_121 : decode cX6_vote 121 = .ok (.invokevirtual 117, 3) := by decide +kernel
theorem dX6_vote_124 : decode cX6_vote 124 = .ok (.iinc 4 1, 3) := by decide +kernel
theorem dX6_vote_127 : decode cX6_vote 127 = .ok (.goto (-18), 3) := by decide +kernel
theorem dX6_vote_130 : decode cX6_vote 130 = .ok (.iload_n 3, 1) := by decide +kernel
theorem dX6_vote_131 : decode cX6_vote 131 = .ok (.ireturn, 1) := by decide +kernel
set_option maxRecDepth 20000 in
theorem ggX6_millAt_X6_ofMill : GoodIn wsX6_millAt wsX6_ofMill := goodIn_r _ [5] (by decide +kernel) (by decide +kernel)
set_option maxRecDepth 20000 in
theorem gX6_millAt_X6_ofMill : GoodIn wsX6_millAt (va_wsS RX6 36 yX6_ofMill wsX6_ofMill) := goodIn_app (goodIn_of _ (by decide +kernel)) ggX6_millAt_X6_ofMill
theorem dX6_millAt_0 : decode cX6_millAt 0 = .ok (.iconst 0, 1) := by decide +kernel
theorem dX6_millAt_1 : decode cX6_millAt 1 = .ok (.istore_n 3, 1) := by decide +kernel
theorem dX6_millAt_2 : decode cX6_millAt 2 = .ok (.iload_n 3, 1) := by decide +kernel
theorem dX6_millAt_3 : decode cX6_millAt 3 = .ok (.aload_n 0, 1) := by decide +kernel
theorem dX6_millAt_4 : decode cX6_millAt 4 = .ok (.getfield 7, 3) := by decide +kernel
theorem dX6_millAt_7 : decode cX6_millAt 7 = .ok (.iload_n 1, 1) := by decide +kernel
theorem dX6_millAt_8 : decode cX6_millAt 8 = .ok (.iconst 0, 1) := by decide +kernel
theorem dX6_millAt_9 : decode cX6_millAt 9 = .ok (.iadd, 1) := by decide +kernel
theorem dX6_millAt_10 : decode cX6_millAt 10 = .ok (.iaload, 1) := by decide +kernel
theorem dX6_millAt_11 : decode cX6_millAt 11 = .ok (.if_icmp .ge 26, 3) := by decide +kernel
theorem dX6_millAt_14 : decode cX6_millAt 14 = .ok (.aload_n 0, 1) := by decide +kernel
theorem dX6_millAt_15 : decode cX6_millAt 15 = .ok (.getfield 7, 3) := by decide +kernel
theorem dX6_millAt_18 : decode cX6_millAt 18 = .ok (.iload_n 1, 1) := by decide +kernel
theorem dX6_millAt_19 : decode cX6_millAt 19 = .ok (.iload_n 3, 1) := by decide +kernel
theorem dX6_millAt_20 : decode cX6_millAt 20 = .ok (.iconst 1, 1) := by decide +kernel
theorem dX6_millAt_21 : decode cX6_millAt 21 = .ok (.invokestatic 36, 3) := by decide +kernel
theorem dX6_millAt_24 : decode cX6_millAt 24 = .ok (.iaload, 1) := by decide +kernel
theorem dX6_millAt_25 : decode cX6_millAt 25 = .ok (.iload_n 2, 1) := by decide +kernel
theorem dX6_millAt_26 : decode cX6_millAt 26 = .ok (.if_icmp .ne 5, 3) := by decide +kernel
theorem dX6_millAt_29 : decode cX6_millAt 29 = .ok (.iload_n 3, 1) := by decide +kernel
theorem dX6_millAt_30 : decode cX6_millAt 30 = .ok (.ireturn, 1) := by decide +kernel
theorem dX6_millAt_31 : decode cX6_millAt 31 = .ok (.iinc 3 1, 3) := by decide +kernel
theorem dX6_millAt_34 : decode cX6_millAt 34 = .ok (.goto (-32), 3) := by decide +kernel
theorem dX6_millAt_37 : decode cX6_millAt 37 = .ok (.bipush (-5), 2) := by decide +kernel
theorem dX6_millAt_39 : decode cX6_millAt 39 = .ok (.ireturn, 1) := by decide +kernel
set_option maxRecDepth 20000 in
theorem ggX6_houseAt_X6_ofHouse : GoodIn wsX6_houseAt wsX6_ofHouse := goodIn_r _ [5] (by decide +kernel) (by decide +kernel)
set_option maxRecDepth 20000 in
theorem gX6_houseAt_X6_ofHouse : GoodIn wsX6_houseAt (va_wsS RX6 61 yX6_ofHouse wsX6_ofHouse) := goodIn_app (goodIn_of _ (by decide +kernel)) ggX6_houseAt_X6_ofHouse
theorem dX6_houseAt_0 : decode cX6_houseAt 0 = .ok (.iconst 0, 1) := by decide +kernel
theorem dX6_houseAt_1 : decode cX6_houseAt 1 = .ok (.istore_n 3, 1) := by decide +kernel
theorem dX6_houseAt_2 : decode cX6_houseAt 2 = .ok (.iload_n 3, 1) := by decide +kernel
theorem dX6_houseAt_3 : decode cX6_houseAt 3 = .ok (.aload_n 0, 1) := by decide +kernel
theorem dX6_houseAt_4 : decode cX6_houseAt 4 = .ok (.getfield 7, 3) := by decide +kernel
theorem dX6_houseAt_7 : decode cX6_houseAt 7 = .ok (.iload_n 1, 1) := by decide +kernel
theorem dX6_houseAt_8 : decode cX6_houseAt 8 = .ok (.bipush 13, 2) := by decide +kernel
theorem dX6_houseAt_10 : decode cX6_houseAt 10 = .ok (.iadd, 1) := by decide +kernel
theorem dX6_houseAt_11 : decode cX6_houseAt 11 = .ok (.iaload, 1) := by decide +kernel
theorem dX6_houseAt_12 : decode cX6_houseAt 12 = .ok (.if_icmp .ge 26, 3) := by decide +kernel
theorem dX6_houseAt_15 : decode cX6_houseAt 15 = .ok (.aload_n 0, 1) := by decide +kernel
theorem dX6_houseAt_16 : decode cX6_houseAt 16 = .ok (.getfield 7, 3) := by decide +kernel
theorem dX6_houseAt_19 : decode cX6_houseAt 19 = .ok (.iload_n 1, 1) := by decide +kernel
theorem dX6_houseAt_20 : decode cX6_houseAt 20 = .ok (.iload_n 3, 1) := by decide +kernel
theorem dX6_houseAt_21 : decode cX6_houseAt 21 = .ok (.iconst 0, 1) := by decide +kernel
theorem dX6_houseAt_22 : decode cX6_houseAt 22 = .ok (.invokestatic 61, 3) := by decide +kernel
theorem dX6_houseAt_25 : decode cX6_houseAt 25 = .ok (.iaload, 1) := by decide +kernel
theorem dX6_houseAt_26 : decode cX6_houseAt 26 = .ok (.iload_n 2, 1) := by decide +kernel
theorem dX6_houseAt_27 : decode cX6_houseAt 27 = .ok (.if_icmp .ne 5, 3) := by decide +kernel
theorem dX6_houseAt_30 : decode cX6_houseAt 30 = .ok (.iload_n 3, 1) := by decide +kernel
theorem dX6_houseAt_31 : decode cX6_houseAt 31 = .ok (.ireturn, 1) := by decide +kernel
theorem dX6_houseAt_32 : decode cX6_houseAt 32 = .ok (.iinc 3 1, 3) := by decide +kernel
theorem dX6_houseAt_35 : decode cX6_houseAt 35 = .ok (.goto (-33), 3) := by decide +kernel
theorem dX6_houseAt_38 : decode cX6_houseAt 38 = .ok (.bipush (-5), 2) := by decide +kernel
theorem dX6_houseAt_40 : decode cX6_houseAt 40 = .ok (.ireturn, 1) := by decide +kernel
set_option maxRecDepth 20000 in
theorem ggX6_isBuilt_X6_millAt : GoodIn wsX6_isBuilt wsX6_millAt := goodIn_r _ [5, 6, 7, 8, 4, 9, 17, 18, 19, 20, 21, 22, 23] (by decide +kernel) (by decide +kernel)
set_option maxRecDepth 20000 in
theorem gX6_isBuilt_X6_millAt : GoodIn wsX6_isBuilt (wsV RX6 127 RX6 yX6_millAt wsX6_millAt) := goodIn_app (goodIn_of _ (by decide +kernel)) ggX6_isBuilt_X6_millAt
set_option maxRecDepth 20000 in
theorem ggX6_isBuilt_X6_houseAt : GoodIn wsX6_isBuilt wsX6_houseAt := goodIn_r _ [13, 6, 14, 15, 4, 16, 17, 18, 19, 20, 21, 22, 23] (by decide +kernel) (by decide +kernel)
set_option maxRecDepth 20000 in
theorem gX6_isBuilt_X6_houseAt : GoodIn wsX6_isBuilt (wsV RX6 130 RX6 yX6_houseAt wsX6_houseAt) := goodIn_app (goodIn_of _ (by decide +kernel)) ggX6_isBuilt_X6_houseAt
theorem dX6_isBuilt_0 : decode cX6_isBuilt 0 = .ok (.aload_n 0, 1) := by decide +kernel
theorem dX6_isBuilt_1 : decode cX6_isBuilt 1 = .ok (.iload_n 1, 1) := by decide +kernel
theorem dX6_isBuilt_2 : decode cX6_isBuilt 2 = .ok (.iload_n 2, 1) := by decide +kernel
theorem dX6_isBuilt_3 : decode cX6_isBuilt 3 = .ok (.invokevirtual 127, 3) := by decide +kernel
theorem dX6_isBuilt_6 : decode cX6_isBuilt 6 = .ok (.bipush (-5), 2) := by decide +kernel
theorem dX6_isBuilt_8 : decode cX6_isBuilt 8 = .ok (.if_icmp .ne 14, 3) := by decide +kernel
theorem dX6_isBuilt_11 : decode cX6_isBuilt 11 = .ok (.aload_n 0, 1) := by decide +kernel
theorem dX6_isBuilt_12 : decode cX6_isBuilt 12 = .ok (.iload_n 1, 1) := by decide +kernel
theorem dX6_isBuilt_13 : decode cX6_isBuilt 13 = .ok (.iload_n 2, 1) := by decide +kernel
theorem dX6_isBuilt_14 : decode cX6_isBuilt 14 = .ok (.invokevirtual 130, 3) := by decide +kernel
theorem dX6_isBuilt_17 : decode cX6_isBuilt 17 = .ok (.bipush (-5), 2) := by decide +kernel
theorem dX6_isBuilt_19 : decode cX6_isBuilt 19 = .ok (.if_icmp .eq 7, 3) := by decide +kernel
theorem dX6_isBuilt_22 : decode cX6_isBuilt 22 = .ok (.iconst 1, 1) := by decide +kernel
theorem dX6_isBuilt_23 : decode cX6_isBuilt 23 = .ok (.goto 4, 3) := by decide +kernel
theorem dX6_isBuilt_26 : decode cX6_isBuilt 26 = .ok (.iconst 0, 1) := by decide +kernel
theorem dX6_isBuilt_27 : decode cX6_isBuilt 27 = .ok (.ireturn, 1) := by decide +kernel
set_option maxRecDepth 20000 in
theorem ggX6_millComes_X6_isYard : GoodIn wsX6_millComes wsX6_isYard := goodIn_r _ [5, 6, 7, 4, 8] (by decide +kernel) (by decide +kernel)
set_option maxRecDepth 20000 in
theorem gX6_millComes_X6_isYard : GoodIn wsX6_millComes (va_wsS RX6 133 yX6_isYard wsX6_isYard) := goodIn_app (goodIn_of _ (by decide +kernel)) ggX6_millComes_X6_isYard
set_option maxRecDepth 20000 in
theorem ggX6_millComes_X6_in : GoodIn wsX6_millComes wsX6_in := goodIn_r _ [8] (by decide +kernel) (by decide +kernel)
set_option maxRecDepth 20000 in
theorem gX6_millComes_X6_in : GoodIn wsX6_millComes (va_wsS RX6 22 yX6_in wsX6_in) := goodIn_app (goodIn_of _ (by decide +kernel)) ggX6_millComes_X6_in
set_option maxRecDepth 20000 in
theorem ggX6_millComes_X6_isBuilt : GoodIn wsX6_millComes wsX6_isBuilt := goodIn_r _ [12, 13, 14, 15, 4, 16, 1, 17, 18, 19, 20, 21, 22, 23, 24, 25, 26, 27, 28, 29, 30, 31, 32, 33] (by decide +kernel) (by decide +kernel)
set_option maxRecDepth 20000 in
theorem gX6_millComes_X6_isBuilt : GoodIn wsX6_millComes (wsV RX6 136 RX6 yX6_isBuilt wsX6_isBuilt) := goodIn_app (goodIn_of _ (by decide +kernel)) ggX6_millComes_X6_isBuilt
set_option maxRecDepth 20000 in
theorem ggX6_millComes_X6_ofMill : GoodIn wsX6_millComes wsX6_ofMill := goodIn_r _ [19] (by decide +kernel) (by decide +kernel)
set_option maxRecDepth 20000 in
theorem gX6_millComes_X6_ofMill : GoodIn wsX6_millComes (va_wsS RX6 36 yX6_ofMill wsX6_ofMill) := goodIn_app (goodIn_of _ (by decide +kernel)) ggX6_millComes_X6_ofMill
theorem dX6_millComes_0 : decode cX6_millComes 0 = .ok (.iload_n 3, 1) := by decide +kernel
theorem dX6_millComes_1 : decode cX6_millComes 1 = .ok (.invokestatic 133, 3) := by decide +kernel
theorem dX6_millComes_4 : decode cX6_millComes 4 = .ok (.ifCond .ne 5, 3) := by decide +kernel
theorem dX6_millComes_7 : decode cX6_millComes 7 = .ok (.iconst (-1), 1) := by decide +kernel
theorem dX6_millComes_8 : decode cX6_millComes 8 = .ok (.ireturn, 1) := by decide +kernel
theorem dX6_millComes_9 : decode cX6_millComes 9 = .ok (.iload_n 2, 1) := by decide +kernel
theorem dX6_millComes_10 : decode cX6_millComes 10 = .ok (.iconst 1, 1) := by decide +kernel
theorem dX6_millComes_11 : decode cX6_millComes 11 = .ok (.iconst 5, 1) := by decide +kernel
theorem dX6_millComes_12 : decode cX6_millComes 12 = .ok (.invokestatic 22, 3) := by decide +kernel
theorem dX6_millComes_15 : decode cX6_millComes 15 = .ok (.ifCond .ne 6, 3) := by decide +kernel
theorem dX6_millComes_18 : decode cX6_millComes 18 = .ok (.bipush (-2), 2) := by decide +kernel
theorem dX6_millComes_20 : decode cX6_millComes 20 = .ok (.ireturn, 1) := by decide +kernel
theorem dX6_millComes_21 : decode cX6_millComes 21 = .ok (.aload_n 0, 1) := by decide +kernel
theorem dX6_millComes_22 : decode cX6_millComes 22 = .ok (.iload_n 1, 1) := by decide +kernel
theorem dX6_millComes_23 : decode cX6_millComes 23 = .ok (.iload_n 3, 1) := by decide +kernel
theorem dX6_millComes_24 : decode cX6_millComes 24 = .ok (.invokevirtual 136, 3) := by decide +kernel
theorem dX6_millComes_27 : decode cX6_millComes 27 = .ok (.ifCond .eq 6, 3) := by decide +kernel
theorem dX6_millComes_30 : decode cX6_millComes 30 = .ok (.bipush (-4), 2) := by decide +kernel
theorem dX6_millComes_32 : decode cX6_millComes 32 = .ok (.ireturn, 1) := by decide +kernel
theorem dX6_millComes_33 : decode cX6_millComes 33 = .ok (.aload_n 0, 1) := by decide +kernel
theorem dX6_millComes_34 : decode cX6_millComes 34 = .ok (.getfield 7, 3) := by decide +kernel
theorem dX6_millComes_37 : decode cX6_millComes 37 = .ok (.iload_n 1, 1) := by decide +kernel
theorem dX6_millComes_38 : decode cX6_millComes 38 = .ok (.iconst 0, 1) := by decide +kernel
theorem dX6_millComes_39 : decode cX6_millComes 39 = .ok (.iadd, 1) := by decide +kernel
theorem dX6_millComes_40 : decode cX6_millComes 40 = .ok (.iaload, 1) := by decide +kernel
theorem dX6_millComes_41 : decode cX6_millComes 41 = .ok (.iconst 4, 1) := by decide +kernel
theorem dX6_millComes_42 : decode cX6_millComes 42 = .ok (.if_icmp .ne 6, 3) := by decide +kernel
theorem dX6_millComes_45 : decode cX6_millComes 45 = .ok (.bipush (-3), 2) := by decide +kernel
theorem dX6_millComes_47 : decode cX6_millComes 47 = .ok (.ireturn, 1) := by decide +kernel
theorem dX6_millComes_48 : decode cX6_millComes 48 = .ok (.aload_n 0, 1) := by decide +kernel
theorem dX6_millComes_49 : decode cX6_millComes 49 = .ok (.getfield 7, 3) := by decide +kernel
theorem dX6_millComes_52 : decode cX6_millComes 52 = .ok (.iload_n 1, 1) := by decide +kernel
theorem dX6_millComes_53 : decode cX6_millComes 53 = .ok (.aload_n 0, 1) := by decide +kernel
theorem dX6_millComes_54 : decode cX6_millComes 54 = .ok (.getfield 7, 3) := by decide +kernel
theorem dX6_millComes_57 : decode cX6_millComes 57 = .ok (.iload_n 1, 1) := by decide +kernel
theorem dX6_millComes_58 : decode cX6_millComes 58 = .ok (.iconst 0, 1) := by decide +kernel
theorem dX6_millComes_59 : decode cX6_millComes 59 = .ok (.iadd, 1) := by decide +kernel
theorem dX6_millComes_60 : decode cX6_millComes 60 = .ok (.iaload, 1) := by decide +kernel
theorem dX6_millComes_61 : decode cX6_millComes 61 = .ok (.iconst 0, 1) := by decide +kernel
theorem dX6_millComes_62 : decode cX6_millComes 62 = .ok (.invokestatic 36, 3) := by decide +kernel
theorem dX6_millComes_65 : decode cX6_millComes 65 = .ok (.iload_n 2, 1) := by decide +kernel
theorem dX6_millComes_66 : decode cX6_millComes 66 = .ok (.iastore, 1) := by decide +kernel
theorem dX6_millComes_67 : decode cX6_millComes 67 = .ok (.aload_n 0, 1) := by decide +kernel
theorem dX6_millComes_68 : decode cX6_millComes 68 = .ok (.getfield 7, 3) := by decide +kernel
theorem dX6_millComes_71 : decode cX6_millComes 71 = .ok (.iload_n 1, 1) := by decide +kernel
theorem dX6_millComes_72 : decode cX6_millComes 72 = .ok (.aload_n 0, 1) := by decide +kernel
theorem dX6_millComes_73 : decode cX6_millComes 73 = .ok (.getfield 7, 3) := by decide +kernel
theorem dX6_millComes_76 : decode cX6_millComes 76 = .ok (.iload_n 1, 1) := by decide +kernel
theorem dX6_millComes_77 : decode cX6_millComes 77 = .ok (.iconst 0, 1) := by decide +kernel
theorem dX6_millComes_78 : decode cX6_millComes 78 = .ok (.iadd, 1) := by decide +kernel
theorem dX6_millComes_79 : decode cX6_millComes 79 = .ok (.iaload, 1) := by decide +kernel
theorem dX6_millComes_80 : decode cX6_millComes 80 = .ok (.iconst 1, 1) := by decide +kernel
theorem dX6_millComes_81 : decode cX6_millComes 81 = .ok (.invokestatic 36, 3) := by decide +kernel
theorem dX6_millComes_84 : decode cX6_millComes 84 = .ok (.iload_n 3, 1) := by decide +kernel
theorem dX6_millComes_85 : decode cX6_millComes 85 = .ok (.iastore, 1) := by decide +kernel
theorem dX6_millComes_86 : decode cX6_millComes 86 = .ok (.aload_n 0, 1) := by decide +kernel
theorem dX6_millComes_87 : decode cX6_millComes 87 = .ok (.getfield 7, 3) := by decide +kernel
theorem dX6_millComes_90 : decode cX6_millComes 90 = .ok (.iload_n 1, 1) := by decide +kernel
theorem dX6_millComes_91 : decode cX6_millComes 91 = .ok (.iconst 0, 1) := by decide +kernel
theorem dX6_millComes_92 : decode cX6_millComes 92 = .ok (.iadd, 1) := by decide +kernel
theorem dX6_millComes_93 : decode cX6_millComes 93 = .ok (.dup2, 1) := by decide +kernel
theorem dX6_millComes_94 : decode cX6_millComes 94 = .ok (.iaload, 1) := by decide +kernel
theorem dX6_millComes_95 : decode cX6_millComes 95 = .ok (.iconst 1, 1) := by decide +kernel
theorem dX6_millComes_96 : decode cX6_millComes 96 = .ok (.iadd, 1) := by decide +kernel
theorem dX6_millComes_97 : decode cX6_millComes 97 = .ok (.iastore, 1) := by decide +kernel
theorem dX6_millComes_98 : decode cX6_millComes 98 = .ok (.aload_n 0, 1) := by decide +kernel
theorem dX6_millComes_99 : decode cX6_millComes 99 = .ok (.getfield 7, 3) := by decide +kernel
theorem dX6_millComes_102 : decode cX6_millComes 102 = .ok (.iload_n 1, 1) := by decide +kernel
theorem dX6_millComes_103 : decode cX6_millComes 103 = .ok (.iconst 0, 1) := by decide +kernel
theorem dX6_millComes_104 : decode cX6_millComes 104 = .ok (.iadd, 1) := by decide +kernel
theorem dX6_millComes_105 : decode cX6_millComes 105 = .ok (.iaload, 1) := by decide +kernel
theorem dX6_millComes_106 : decode cX6_millComes 106 = .ok (.iconst 1, 1) := by decide +kernel
theorem dX6_millComes_107 : decode cX6_millComes 107 = .ok (.isub, 1) := by decide +kernel
theorem dX6_millComes_108 : decode cX6_millComes 108 = .ok (.ireturn, 1) := by decide +kernel
set_option maxRecDepth 20000 in
theorem ggX6_houseComes_X6_isYard : GoodIn wsX6_houseComes wsX6_isYard := goodIn_r _ [5, 6, 7, 4, 8] (by decide +kernel) (by decide +kernel)
set_option maxRecDepth 20000 in
theorem gX6_houseComes_X6_isYard : GoodIn wsX6_houseComes (va_wsS RX6 133 yX6_isYard wsX6_isYard) := goodIn_app (goodIn_of _ (by decide +kernel)) ggX6_houseComes_X6_isYard
set_option maxRecDepth 20000 in
theorem ggX6_houseComes_X6_isBuilt : GoodIn wsX6_houseComes wsX6_isBuilt := goodIn_r _ [12, 13, 14, 15, 4, 16, 1, 17, 18, 19, 20, 21, 22, 23, 24, 25, 26, 27, 28, 29, 30, 31, 32, 33] (by decide +kernel) (by decide +kernel)
set_option maxRecDepth 20000 in
theorem gX6_houseComes_X6_isBuilt : GoodIn wsX6_houseComes (wsV RX6 136 RX6 yX6_isBuilt wsX6_isBuilt) := goodIn_app (goodIn_of _ (by decide +kernel)) ggX6_houseComes_X6_isBuilt
set_option maxRecDepth 20000 in
theorem ggX6_houseComes_X6_ofHouse : GoodIn wsX6_houseComes wsX6_ofHouse := goodIn_r _ [26] (by decide +kernel) (by decide +kernel)
set_option maxRecDepth 20000 in
theorem gX6_houseComes_X6_ofHouse : GoodIn wsX6_houseComes (va_wsS RX6 61 yX6_ofHouse wsX6_ofHouse) := goodIn_app (goodIn_of _ (by decide +kernel)) ggX6_houseComes_X6_ofHouse
theorem dX6_houseComes_0 : decode cX6_houseComes 0 = .ok (.iload_n 2, 1) := by decide +kernel
theorem dX6_houseComes_1 : decode cX6_houseComes 1 = .ok (.invokestatic 133, 3) := by decide +kernel
theorem dX6_houseComes_4 : decode cX6_houseComes 4 = .ok (.ifCond .ne 5, 3) := by decide +kernel
theorem dX6_houseComes_7 : decode cX6_houseComes 7 = .ok (.iconst (-1), 1) := by decide +kernel
theorem dX6_houseComes_8 : decode cX6_houseComes 8 = .ok (.ireturn, 1) := by decide +kernel
theorem dX6_houseComes_9 : decode cX6_houseComes 9 = .ok (.aload_n 0, 1) := by decide +kernel
theorem dX6_houseComes_10 : decode cX6_houseComes 10 = .ok (.iload_n 1, 1) := by decide +kernel
theorem dX6_houseComes_11 : decode cX6_houseComes 11 = .ok (.iload_n 2, 1) := by decide +kernel
theorem dX6_houseComes_12 : decode cX6_houseComes 12 = .ok (.invokevirtual 136, 3) := by decide +kernel
theorem dX6_houseComes_15 : decode cX6_houseComes 15 = .ok (.ifCond .eq 6, 3) := by decide +kernel
theorem dX6_houseComes_18 : decode cX6_houseComes 18 = .ok (.bipush (-4), 2) := by decide +kernel
theorem dX6_houseComes_20 : decode cX6_houseComes 20 = .ok (.ireturn, 1) := by decide +kernel
theorem dX6_houseComes_21 : decode cX6_houseComes 21 = .ok (.aload_n 0, 1) := by decide +kernel
theorem dX6_houseComes_22 : decode cX6_houseComes 22 = .ok (.getfield 7, 3) := by decide +kernel
theorem dX6_houseComes_25 : decode cX6_houseComes 25 = .ok (.iload_n 1, 1) := by decide +kernel
theorem dX6_houseComes_26 : decode cX6_houseComes 26 = .ok (.bipush 13, 2) := by decide +kernel
theorem dX6_houseComes_28 : decode cX6_houseComes 28 = .ok (.iadd, 1) := by decide +kernel
theorem dX6_houseComes_29 : decode cX6_houseComes 29 = .ok (.iaload, 1) := by decide +kernel
theorem dX6_houseComes_30 : decode cX6_houseComes 30 = .ok (.bipush 10, 2) := by decide +kernel
theorem dX6_houseComes_32 : decode cX6_houseComes 32 = .ok (.if_icmp .ne 6, 3) := by decide +kernel
theorem dX6_houseComes_35 : decode cX6_houseComes 35 = .ok (.bipush (-3), 2) := by decide +kernel
theorem dX6_houseComes_37 : decode cX6_houseComes 37 = .ok (.ireturn, 1) := by decide +kernel
theorem dX6_houseComes_38 : decode cX6_houseComes 38 = .ok (.aload_n 0, 1) := by decide +kernel
theorem dX6_houseComes_39 : decode cX6_houseComes 39 = .ok (.getfield 7, 3) := by decide +kernel
theorem dX6_houseComes_42 : decode cX6_houseComes 42 = .ok (.iload_n 1, 1) := by decide +kernel
theorem dX6_houseComes_43 : decode cX6_houseComes 43 = .ok (.aload_n 0, 1) := by decide +kernel
theorem dX6_houseComes_44 : decode cX6_houseComes 44 = .ok (.getfield 7, 3) := by decide +kernel
theorem dX6_houseComes_47 : decode cX6_houseComes 47 = .ok (.iload_n 1, 1) := by decide +kernel
theorem dX6_houseComes_48 : decode cX6_houseComes 48 = .ok (.bipush 13, 2) := by decide +kernel
theorem dX6_houseComes_50 : decode cX6_houseComes 50 = .ok (.iadd, 1) := by decide +kernel
theorem dX6_houseComes_51 : decode cX6_houseComes 51 = .ok (.iaload, 1) := by decide +kernel
theorem dX6_houseComes_52 : decode cX6_houseComes 52 = .ok (.iconst 0, 1) := by decide +kernel
theorem dX6_houseComes_53 : decode cX6_houseComes 53 = .ok (.invokestatic 61, 3) := by decide +kernel
theorem dX6_houseComes_56 : decode cX6_houseComes 56 = .ok (.iload_n 2, 1) := by decide +kernel
theorem dX6_houseComes_57 : decode cX6_houseComes 57 = .ok (.iastore, 1) := by decide +kernel
theorem dX6_houseComes_58 : decode cX6_houseComes 58 = .ok (.aload_n 0, 1) := by decide +kernel
theorem dX6_houseComes_59 : decode cX6_houseComes 59 = .ok (.getfield 7, 3) := by decide +kernel
theorem dX6_houseComes_62 : decode cX6_houseComes 62 = .ok (.iload_n 1, 1) := by decide +kernel
theorem dX6_houseComes_63 : decode cX6_houseComes 63 = .ok (.bipush 13, 2) := by decide +kernel
theorem dX6_houseComes_65 : decode cX6_houseComes 65 = .ok (.iadd, 1) := by decide +kernel
theorem dX6_houseComes_66 : decode cX6_houseComes 66 = .ok (.dup2, 1) := by decide +kernel
theorem dX6_houseComes_67 : decode cX6_houseComes 67 = .ok (.iaload, 1) := by decide +kernel
theorem dX6_houseComes_68 : decode cX6_houseComes 68 = .ok (.iconst 1, 1) := by decide +kernel
theorem dX6_houseComes_69 : decode cX6_houseComes 69 = .ok (.iadd, 1) := by decide +kernel
theorem dX6_houseComes_70 : decode cX6_houseComes 70 = .ok (.iastore, 1) := by decide +kernel
theorem dX6_houseComes_71 : decode cX6_houseComes 71 = .ok (.aload_n 0, 1) := by decide +kernel
theorem dX6_houseComes_72 : decode cX6_houseComes 72 = .ok (.getfield 7, 3) := by decide +kernel
theorem dX6_houseComes_75 : decode cX6_houseComes 75 = .ok (.iload_n 1, 1) := by decide +kernel
theorem dX6_houseComes_76 : decode cX6_houseComes 76 = .ok (.bipush 13, 2) := by decide +kernel
theorem dX6_houseComes_78 : decode cX6_houseComes 78 = .ok (.iadd, 1) := by decide +kernel
theorem dX6_houseComes_79 : decode cX6_houseComes 79 = .ok (.iaload, 1) := by decide +kernel
theorem dX6_houseComes_80 : decode cX6_houseComes 80 = .ok (.iconst 1, 1) := by decide +kernel
theorem dX6_houseComes_81 : decode cX6_houseComes 81 = .ok (.isub, 1) := by decide +kernel
theorem dX6_houseComes_82 : decode cX6_houseComes 82 = .ok (.ireturn, 1) := by decide +kernel
theorem dX6_blows_0 : decode cX6_blows 0 = .ok (.iconst 0, 1) := by decide +kernel
theorem dX6_blows_1 : decode cX6_blows 1 = .ok (.istore 5, 2) := by decide +kernel
theorem dX6_blows_3 : decode cX6_blows 3 = .ok (.iload_n 2, 1) := by decide +kernel
theorem dX6_blows_4 : decode cX6_blows 4 = .ok (.istore 6, 2) := by decide +kernel
theorem dX6_blows_6 : decode cX6_blows 6 = .ok (.iload 6, 2) := by decide +kernel
theorem dX6_blows_8 : decode cX6_blows 8 = .ok (.iload_n 3, 1) := by decide +kernel
theorem dX6_blows_9 : decode cX6_blows 9 = .ok (.if_icmp .gt 50, 3) := by decide +kernel
theorem dX6_blows_12 : decode cX6_blows 12 = .ok (.iload 5, 2) := by decide +kernel
theorem dX6_blows_14 : decode cX6_blows 14 = .ok (.aload_n 0, 1) := by decide +kernel
theorem dX6_blows_15 : decode cX6_blows 15 = .ok (.getfield 7, 3) := by decide +kernel
theorem dX6_blows_18 : decode cX6_blows 18 = .ok (.iload_n 1, 1) := by decide +kernel
theorem dX6_blows_19 : decode cX6_blows 19 = .ok (.bipush 34, 2) := by decide +kernel
theorem dX6_blows_21 : decode cX6_blows 21 = .ok (.iadd, 1) := by decide +kernel
theorem dX6_blows_22 : decode cX6_blows 22 = .ok (.iload 6, 2) := by decide +kernel
theorem dX6_blows_24 : decode cX6_blows 24 = .ok (.iadd, 1) := by decide +kernel
theorem dX6_blows_25 : decode cX6_blows 25 = .ok (.iaload, 1) := by decide +kernel
theorem dX6_blows_26 : decode cX6_blows 26 = .ok (.iload 4, 2) := by decide +kernel
theorem dX6_blows_28 : decode cX6_blows 28 = .ok (.if_icmp .ne 7, 3) := by decide +kernel
theorem dX6_blows_31 : decode cX6_blows 31 = .ok (.iconst 0, 1) := by decide +kernel
theorem dX6_blows_32 : decode cX6_blows 32 = .ok (.goto 4, 3) := by decide +kernel
theorem dX6_blows_35 : decode cX6_blows 35 = .ok (.iconst 1, 1) := by decide +kernel
theorem dX6_blows_36 : decode cX6_blows 36 = .ok (.iadd, 1) := by decide +kernel
theorem dX6_blows_37 : decode cX6_blows 37 = .ok (.istore 5, 2) := by decide +kernel
theorem dX6_blows_39 : decode cX6_blows 39 = .ok (.aload_n 0, 1) := by decide +kernel
theorem dX6_blows_40 : decode cX6_blows 40 = .ok (.getfield 7, 3) := by decide +kernel
theorem dX6_blows_43 : decode cX6_blows 43 = .ok (.iload_n 1, 1) := by decide +kernel
theorem dX6_blows_44 : decode cX6_blows 44 = .ok (.bipush 34, 2) := by decide +kernel
theorem dX6_blows_46 : decode cX6_blows 46 = .ok (.iadd, 1) := by decide +kernel
theorem dX6_blows_47 : decode cX6_blows 47 = .ok (.iload 6, 2) := by decide +kernel
theorem dX6_blows_49 : decode cX6_blows 49 = .ok (.iadd, 1) := by decide +kernel
theorem dX6_blows_50 : decode cX6_blows 50 = .ok (.iload 4, 2) := by decide +kernel
theorem dX6_blows_52 : decode cX6_blows 52 = .ok (.iastore, 1) := by decide +kernel
theorem dX6_blows_53 : decode cX6_blows 53 = .ok (.iinc 6 1, 3) := by decide +kernel
theorem dX6_blows_56 : decode cX6_blows 56 = .ok (.goto (-50), 3) := by decide +kernel
theorem dX6_blows_59 : decode cX6_blows 59 = .ok (.iload 5, 2) := by decide +kernel
theorem dX6_blows_61 : decode cX6_blows 61 = .ok (.ifCond .ne 8, 3) := by decide +kernel
theorem dX6_blows_64 : decode cX6_blows 64 = .ok (.bipush (-5), 2) := by decide +kernel
theorem dX6_blows_66 : decode cX6_blows 66 = .ok (.goto 5, 3) := by decide +kernel
theorem dX6_blows_69 : decode cX6_blows 69 = .ok (.iload 5, 2) := by decide +kernel
theorem dX6_blows_71 : decode cX6_blows 71 = .ok (.ireturn, 1) := by decide +kernel
set_option maxRecDepth 20000 in
theorem ggX6_mill_X6_copies : GoodIn wsX6_mill wsX6_copies := goodIn_r _ [5, 6, 49, 50, 51, 52, 53, 54, 55] (by decide +kernel) (by decide +kernel)
set_option maxRecDepth 20000 in
theorem gX6_mill_X6_copies : GoodIn wsX6_mill (wsV RX6 105 RX6 yX6_copies wsX6_copies) := goodIn_app (goodIn_of _ (by decide +kernel)) ggX6_mill_X6_copies
set_option maxRecDepth 20000 in
theorem ggX6_mill_X6_millComes : GoodIn wsX6_mill wsX6_millComes := goodIn_r _ [10, 6, 11, 12, 4, 13, 14, 15, 16, 17, 18, 19, 20, 21, 22, 23, 24, 25, 26, 27, 28, 29, 30, 31, 32, 33, 34, 49, 50, 51, 52, 53, 54, 55] (by decide +kernel) (by decide +kernel)
set_option maxRecDepth 20000 in
theorem gX6_mill_X6_millComes : GoodIn wsX6_mill (wsV RX6 139 RX6 yX6_millComes wsX6_millComes) := goodIn_app (goodIn_of _ (by decide +kernel)) ggX6_mill_X6_millComes
set_option maxRecDepth 20000 in
theorem ggX6_mill_X6_acts : GoodIn wsX6_mill wsX6_acts := goodIn_r _ [38, 39, 40, 41, 4, 42, 6, 43, 44, 45, 46, 47, 48, 49, 50, 51, 52, 53, 54, 55] (by decide +kernel) (by decide +kernel)
set_option maxRecDepth 20000 in
theorem gX6_mill_X6_acts : GoodIn wsX6_mill (wsV RX6 142 RX6 yX6_acts wsX6_acts) := goodIn_app (goodIn_of _ (by decide +kernel)) ggX6_mill_X6_acts
theorem dX6_mill_0 : decode cX6_mill 0 = .ok (.aload_n 0, 1) := by decide +kernel
theorem dX6_mill_1 : decode cX6_mill 1 = .ok (.invokevirtual 105, 3) := by decide +kernel
theorem dX6_mill_4 : decode cX6_mill 4 = .ok (.aload_n 0, 1) := by decide +kernel
theorem dX6_mill_5 : decode cX6_mill 5 = .ok (.aload_n 0, 1) := by decide +kernel
theorem dX6_mill_6 : decode cX6_mill 6 = .ok (.sipush 148, 3) := by decide +kernel
theorem dX6_mill_9 : decode cX6_mill 9 = .ok (.iload_n 1, 1) := by decide +kernel
theorem dX6_mill_10 : decode cX6_mill 10 = .ok (.iload_n 2, 1) := by decide +kernel
theorem dX6_mill_11 : decode cX6_mill 11 = .ok (.invokevirtual 139, 3) := by decide +kernel
theorem dX6_mill_14 : decode cX6_mill 14 = .ok (.invokevirtual 142, 3) := by decide +kernel
theorem dX6_mill_17 : decode cX6_mill 17 = .ok (.ireturn, 1) := by decide +kernel
set_option maxRecDepth 20000 in
theorem ggX6_house_X6_copies : GoodIn wsX6_house wsX6_copies := goodIn_r _ [5, 6, 49, 50, 51, 52, 53, 54, 55] (by decide +kernel) (by decide +kernel)
set_option maxRecDepth 20000 in
theorem gX6_house_X6_copies : GoodIn wsX6_house (wsV RX6 105 RX6 yX6_copies wsX6_copies) := goodIn_app (goodIn_of _ (by decide +kernel)) ggX6_house_X6_copies
set_option maxRecDepth 20000 in
theorem ggX6_house_X6_houseComes : GoodIn wsX6_house wsX6_houseComes := goodIn_r _ [10, 6, 11, 12, 4, 13, 14, 15, 16, 17, 18, 19, 20, 21, 22, 23, 24, 25, 26, 27, 28, 29, 30, 31, 32, 33, 34, 49, 50, 51, 52, 53, 54, 55] (by decide +kernel) (by decide +kernel)
set_option maxRecDepth 20000 in
theorem gX6_house_X6_houseComes : GoodIn wsX6_house (wsV RX6 145 RX6 yX6_houseComes wsX6_houseComes) := goodIn_app (goodIn_of _ (by decide +kernel)) ggX6_house_X6_houseComes
set_option maxRecDepth 20000 in
theorem ggX6_house_X6_acts : GoodIn wsX6_house wsX6_acts := goodIn_r _ [38, 39, 40, 41, 4, 42, 6, 43, 44, 45, 46, 47, 48, 49, 50, 51, 52, 53, 54, 55] (by decide +kernel) (by decide +kernel)
set_option maxRecDepth 20000 in
theorem gX6_house_X6_acts : GoodIn wsX6_house (wsV RX6 142 RX6 yX6_acts wsX6_acts) := goodIn_app (goodIn_of _ (by decide +kernel)) ggX6_house_X6_acts
theorem dX6_house_0 : decode cX6_house 0 = .ok (.aload_n 0, 1) := by decide +kernel
theorem dX6_house_1 : decode cX6_house 1 = .ok (.invokevirtual 105, 3) := by decide +kernel
theorem dX6_house_4 : decode cX6_house 4 = .ok (.aload_n 0, 1) := by decide +kernel
theorem dX6_house_5 : decode cX6_house 5 = .ok (.aload_n 0, 1) := by decide +kernel
theorem dX6_house_6 : decode cX6_house 6 = .ok (.sipush 148, 3) := by decide +kernel
theorem dX6_house_9 : decode cX6_house 9 = .ok (.iload_n 1, 1) := by decide +kernel
theorem dX6_house_10 : decode cX6_house 10 = .ok (.invokevirtual 145, 3) := by decide +kernel
theorem dX6_house_13 : decode cX6_house 13 = .ok (.invokevirtual 142, 3) := by decide +kernel
theorem dX6_house_16 : decode cX6_house 16 = .ok (.ireturn, 1) := by decide +kernel
set_option maxRecDepth 20000 in
theorem ggX6_wind_X6_isHour : GoodIn wsX6_wind wsX6_isHour := goodIn_r _ [4, 5, 6, 3, 7] (by decide +kernel) (by decide +kernel)
set_option maxRecDepth 20000 in
theorem gX6_wind_X6_isHour : GoodIn wsX6_wind (va_wsS RX6 82 yX6_isHour wsX6_isHour) := goodIn_app (goodIn_of _ (by decide +kernel)) ggX6_wind_X6_isHour
set_option maxRecDepth 20000 in
theorem ggX6_wind_X6_in : GoodIn wsX6_wind wsX6_in := goodIn_r _ [7] (by decide +kernel) (by decide +kernel)
set_option maxRecDepth 20000 in
theorem gX6_wind_X6_in : GoodIn wsX6_wind (va_wsS RX6 22 yX6_in wsX6_in) := goodIn_app (goodIn_of _ (by decide +kernel)) ggX6_wind_X6_in
set_option maxRecDepth 20000 in
theorem ggX6_wind_X6_copies : GoodIn wsX6_wind wsX6_copies := goodIn_r _ [11, 12, 31, 32, 33, 34, 35, 36, 37] (by decide +kernel) (by decide +kernel)
set_option maxRecDepth 20000 in
theorem gX6_wind_X6_copies : GoodIn wsX6_wind (wsV RX6 105 RX6 yX6_copies wsX6_copies) := goodIn_app (goodIn_of _ (by decide +kernel)) ggX6_wind_X6_copies
set_option maxRecDepth 20000 in
theorem ggX6_wind_X6_blows : GoodIn wsX6_wind wsX6_blows := goodIn_r _ [16, 12, 31, 32, 33, 34, 35, 36, 37] (by decide +kernel) (by decide +kernel)
set_option maxRecDepth 20000 in
theorem gX6_wind_X6_blows : GoodIn wsX6_wind (wsV RX6 148 RX6 yX6_blows wsX6_blows) := goodIn_app (goodIn_of _ (by decide +kernel)) ggX6_wind_X6_blows
set_option maxRecDepth 20000 in
theorem ggX6_wind_X6_acts : GoodIn wsX6_wind wsX6_acts := goodIn_r _ [20, 21, 22, 23, 3, 24, 12, 25, 26, 27, 28, 29, 30, 31, 32, 33, 34, 35, 36, 37] (by decide +kernel) (by decide +kernel)
set_option maxRecDepth 20000 in
theorem gX6_wind_X6_acts : GoodIn wsX6_wind (wsV RX6 142 RX6 yX6_acts wsX6_acts) := goodIn_app (goodIn_of _ (by decide +kernel)) ggX6_wind_X6_acts
theorem dX6_wind_0 : decode cX6_wind 0 = .ok (.iload_n 1, 1) := by decide +kernel
theorem dX6_wind_1 : decode cX6_wind 1 = .ok (.invokestatic 82, 3) := by decide +kernel
theorem dX6_wind_4 : decode cX6_wind 4 = .ok (.ifCond .eq 13, 3) := by decide +kernel
theorem dX6_wind_7 : decode cX6_wind 7 = .ok (.iload_n 2, 1) := by decide +kernel
theorem dX6_wind_8 : decode cX6_wind 8 = .ok (.iload_n 1, 1) := by decide +kernel
theorem dX6_wind_9 : decode cX6_wind 9 = .ok (.bipush 23, 2) := by decide +kernel
theorem dX6_wind_11 : decode cX6_wind 11 = .ok (.invokestatic 22, 3) := by decide +kernel
theorem dX6_wind_14 : decode cX6_wind 14 = .ok (.ifCond .ne 5, 3) := by decide +kernel
theorem dX6_wind_17 : decode cX6_wind 17 = .ok (.iconst (-1), 1) := by decide +kernel
theorem dX6_wind_18 : decode cX6_wind 18 = .ok (.ireturn, 1) := by decide +kernel
theorem dX6_wind_19 : decode cX6_wind 19 = .ok (.iload_n 3, 1) := by decide +kernel
theorem dX6_wind_20 : decode cX6_wind 20 = .ok (.iconst 0, 1) := by decide +kernel
theorem dX6_wind_21 : decode cX6_wind 21 = .ok (.bipush 9, 2) := by decide +kernel
theorem dX6_wind_23 : decode cX6_wind 23 = .ok (.invokestatic 22, 3) := by decide +kernel
theorem dX6_wind_26 : decode cX6_wind 26 = .ok (.ifCond .ne 6, 3) := by decide +kernel
theorem dX6_wind_29 : decode cX6_wind 29 = .ok (.bipush (-2), 2) := by decide +kernel
theorem dX6_wind_31 : decode cX6_wind 31 = .ok (.ireturn, 1) := by decide +kernel
theorem dX6_wind_32 : decode cX6_wind 32 = .ok (.aload_n 0, 1) := by decide +kernel
theorem dX6_wind_33 : decode cX6_wind 33 = .ok (.invokevirtual 105, 3) := by decide +kernel
theorem dX6_wind_36 : decode cX6_wind 36 = .ok (.aload_n 0, 1) := by decide +kernel
theorem dX6_wind_37 : decode cX6_wind 37 = .ok (.aload_n 0, 1) := by decide +kernel
theorem dX6_wind_38 : decode cX6_wind 38 = .ok (.sipush 148, 3) := by decide +kernel
theorem dX6_wind_41 : decode cX6_wind 41 = .ok (.iload_n 1, 1) := by decide +kernel
theorem dX6_wind_42 : decode cX6_wind 42 = .ok (.iload_n 2, 1) := by decide +kernel
theorem dX6_wind_43 : decode cX6_wind 43 = .ok (.iload_n 3, 1) := by decide +kernel
theorem dX6_wind_44 : decode cX6_wind 44 = .ok (.invokevirtual 148, 3) := by decide +kernel
theorem dX6_wind_47 : decode cX6_wind 47 = .ok (.invokevirtual 142, 3) := by decide +kernel
theorem dX6_wind_50 : decode cX6_wind 50 = .ok (.ireturn, 1) := by decide +kernel
set_option maxRecDepth 20000 in
theorem ggX6_canSet_X6_in : GoodIn wsX6_canSet wsX6_in := goodIn_r _ [4] (by decide +kernel) (by decide +kernel)
set_option maxRecDepth 20000 in
theorem gX6_canSet_X6_in : GoodIn wsX6_canSet (va_wsS RX6 22 yX6_in wsX6_in) := goodIn_app (goodIn_of _ (by decide +kernel)) ggX6_canSet_X6_in
theorem dX6_canSet_0 : decode cX6_canSet 0 = .ok (.iload_n 0, 1) := by decide +kernel
theorem dX6_canSet_1 : decode cX6_canSet 1 = .ok (.tableswitch 43 0 2 #[27, 27, 35], 27) := by decide +kernel
theorem dX6_canSet_28 : decode cX6_canSet 28 = .ok (.iload_n 1, 1) := by decide +kernel
theorem dX6_canSet_29 : decode cX6_canSet 29 = .ok (.iconst 0, 1) := by decide +kernel
theorem dX6_canSet_30 : decode cX6_canSet 30 = .ok (.bipush 20, 2) := by decide +kernel
theorem dX6_canSet_32 : decode cX6_canSet 32 = .ok (.invokestatic 22, 3) := by decide +kernel
theorem dX6_canSet_35 : decode cX6_canSet 35 = .ok (.ireturn, 1) := by decide +kernel
theorem dX6_canSet_36 : decode cX6_canSet 36 = .ok (.iload_n 1, 1) := by decide +kernel
theorem dX6_canSet_37 : decode cX6_canSet 37 = .ok (.iconst 1, 1) := by decide +kernel
theorem dX6_canSet_38 : decode cX6_canSet 38 = .ok (.bipush 9, 2) := by decide +kernel
theorem dX6_canSet_40 : decode cX6_canSet 40 = .ok (.invokestatic 22, 3) := by decide +kernel
theorem dX6_canSet_43 : decode cX6_canSet 43 = .ok (.ireturn, 1) := by decide +kernel
theorem dX6_canSet_44 : decode cX6_canSet 44 = .ok (.iload_n 0, 1) := by decide +kernel
theorem dX6_canSet_45 : decode cX6_canSet 45 = .ok (.iconst 3, 1) := by decide +kernel
theorem dX6_canSet_46 : decode cX6_canSet 46 = .ok (.if_icmp .ne 17, 3) := by decide +kernel
theorem dX6_canSet_49 : decode cX6_canSet 49 = .ok (.iload_n 1, 1) := by decide +kernel
theorem dX6_canSet_50 : decode cX6_canSet 50 = .ok (.iconst 0, 1) := by decide +kernel
theorem dX6_canSet_51 : decode cX6_canSet 51 = .ok (.bipush 99, 2) := by decide +kernel
theorem dX6_canSet_53 : decode cX6_canSet 53 = .ok (.invokestatic 22, 3) := by decide +kernel
theorem dX6_canSet_56 : decode cX6_canSet 56 = .ok (.ifCond .eq 7, 3) := by decide +kernel
theorem dX6_canSet_59 : decode cX6_canSet 59 = .ok (.iconst 1, 1) := by decide +kernel
theorem dX6_canSet_60 : decode cX6_canSet 60 = .ok (.goto 4, 3) := by decide +kernel
theorem dX6_canSet_63 : decode cX6_canSet 63 = .ok (.iconst 0, 1) := by decide +kernel
theorem dX6_canSet_64 : decode cX6_canSet 64 = .ok (.ireturn, 1) := by decide +kernel
set_option maxRecDepth 20000 in
theorem ggX6_set_X6_canSet : GoodIn wsX6_set wsX6_canSet := goodIn_r _ [5, 6, 7, 4, 8] (by decide +kernel) (by decide +kernel)
set_option maxRecDepth 20000 in
theorem gX6_set_X6_canSet : GoodIn wsX6_set (va_wsS RX6 151 yX6_canSet wsX6_canSet) := goodIn_app (goodIn_of _ (by decide +kernel)) ggX6_set_X6_canSet
set_option maxRecDepth 20000 in
theorem ggX6_set_X6_remembers : GoodIn wsX6_set wsX6_remembers := goodIn_r _ [12, 13, 14, 1, 15, 16, 17, 18, 19, 20, 21] (by decide +kernel) (by decide +kernel)
set_option maxRecDepth 20000 in
theorem gX6_set_X6_remembers : GoodIn wsX6_set (wsV RX6 30 RX6 yX6_remembers wsX6_remembers) := goodIn_app (goodIn_of _ (by decide +kernel)) ggX6_set_X6_remembers
theorem dX6_set_0 : decode cX6_set 0 = .ok (.iload_n 1, 1) := by decide +kernel
theorem dX6_set_1 : decode cX6_set 1 = .ok (.iload_n 2, 1) := by decide +kernel
theorem dX6_set_2 : decode cX6_set 2 = .ok (.invokestatic 151, 3) := by decide +kernel
theorem dX6_set_5 : decode cX6_set 5 = .ok (.ifCond .ne 6, 3) := by decide +kernel
theorem dX6_set_8 : decode cX6_set 8 = .ok (.bipush (-2), 2) := by decide +kernel
theorem dX6_set_10 : decode cX6_set 10 = .ok (.ireturn, 1) := by decide +kernel
theorem dX6_set_11 : decode cX6_set 11 = .ok (.aload_n 0, 1) := by decide +kernel
theorem dX6_set_12 : decode cX6_set 12 = .ok (.getfield 7, 3) := by decide +kernel
theorem dX6_set_15 : decode cX6_set 15 = .ok (.bipush 58, 2) := by decide +kernel
theorem dX6_set_17 : decode cX6_set 17 = .ok (.iload_n 1, 1) := by decide +kernel
theorem dX6_set_18 : decode cX6_set 18 = .ok (.iadd, 1) := by decide +kernel
theorem dX6_set_19 : decode cX6_set 19 = .ok (.iaload, 1) := by decide +kernel
theorem dX6_set_20 : decode cX6_set 20 = .ok (.istore_n 3, 1) := by decide +kernel
theorem dX6_set_21 : decode cX6_set 21 = .ok (.iload_n 3, 1) := by decide +kernel
theorem dX6_set_22 : decode cX6_set 22 = .ok (.iload_n 2, 1) := by decide +kernel
theorem dX6_set_23 : decode cX6_set 23 = .ok (.if_icmp .ne 6, 3) := by decide +kernel
theorem dX6_set_26 : decode cX6_set 26 = .ok (.bipush (-5), 2) := by decide +kernel
theorem dX6_set_28 : decode cX6_set 28 = .ok (.ireturn, 1) := by decide +kernel
theorem dX6_set_29 : decode cX6_set 29 = .ok (.aload_n 0, 1) := by decide +kernel
theorem dX6_set_30 : decode cX6_set 30 = .ok (.invokevirtual 30, 3) := by decide +kernel
theorem dX6_set_33 : decode cX6_set 33 = .ok (.aload_n 0, 1) := by decide +kernel
theorem dX6_set_34 : decode cX6_set 34 = .ok (.getfield 7, 3) := by decide +kernel
theorem dX6_set_37 : decode cX6_set 37 = .ok (.bipush 58, 2) := by decide +kernel
theorem dX6_set_39 : decode cX6_set 39 = .ok (.iload_n 1, 1) := by decide +kernel
theorem dX6_set_40 : decode cX6_set 40 = .ok (.iadd, 1) := by decide +kernel
theorem dX6_set_41 : decode cX6_set 41 = .ok (.iload_n 2, 1) := by decide +kernel
theorem dX6_set_42 : decode cX6_set 42 = .ok (.iastore, 1) := by decide +kernel
theorem dX6_set_43 : decode cX6_set 43 = .ok (.iload_n 3, 1) := by decide +kernel
theorem dX6_set_44 : decode cX6_set 44 = .ok (.ireturn, 1) := by decide +kernel
theorem dX6_type_0 : decode cX6_type 0 = .ok (.aload_n 0, 1) := by decide +kernel
theorem dX6_type_1 : decode cX6_type 1 = .ok (.getfield 154, 3) := by decide +kernel
theorem dX6_type_4 : decode cX6_type 4 = .ok (.bipush 60, 2) := by decide +kernel
theorem dX6_type_6 : decode cX6_type 6 = .ok (.if_icmp .ne 6, 3) := by decide +kernel
theorem dX6_type_9 : decode cX6_type 9 = .ok (.bipush (-3), 2) := by decide +kernel
theorem dX6_type_11 : decode cX6_type 11 = .ok (.ireturn, 1) := by decide +kernel
theorem dX6_type_12 : decode cX6_type 12 = .ok (.aload_n 0, 1) := by decide +kernel
theorem dX6_type_13 : decode cX6_type 13 = .ok (.getfield 19, 3) := by decide +kernel
theorem dX6_type_16 : decode cX6_type 16 = .ok (.aload_n 0, 1) := by decide +kernel
theorem dX6_type_17 : decode cX6_type 17 = .ok (.getfield 154, 3) := by decide +kernel
theorem dX6_type_20 : decode cX6_type 20 = .ok (.iload_n 1, 1) := by decide +kernel
theorem dX6_type_21 : decode cX6_type 21 = .ok (.iastore, 1) := by decide +kernel
theorem dX6_type_22 : decode cX6_type 22 = .ok (.aload_n 0, 1) := by decide +kernel
theorem dX6_type_23 : decode cX6_type 23 = .ok (.dup, 1) := by decide +kernel
theorem dX6_type_24 : decode cX6_type 24 = .ok (.getfield 154, 3) := by decide +kernel
theorem dX6_type_27 : decode cX6_type 27 = .ok (.iconst 1, 1) := by decide +kernel
theorem dX6_type_28 : decode cX6_type 28 = .ok (.iadd, 1) := by decide +kernel
theorem dX6_type_29 : decode cX6_type 29 = .ok (.putfield 154, 3) := by decide +kernel
theorem dX6_type_32 : decode cX6_type 32 = .ok (.aload_n 0, 1) := by decide +kernel
theorem dX6_type_33 : decode cX6_type 33 = .ok (.getfield 154, 3) := by decide +kernel
theorem dX6_type_36 : decode cX6_type 36 = .ok (.ireturn, 1) := by decide +kernel
theorem dX6_clearText_0 : decode cX6_clearText 0 = .ok (.aload_n 0, 1) := by decide +kernel
theorem dX6_clearText_1 : decode cX6_clearText 1 = .ok (.getfield 154, 3) := by decide +kernel
theorem dX6_clearText_4 : decode cX6_clearText 4 = .ok (.istore_n 1, 1) := by decide +kernel
theorem dX6_clearText_5 : decode cX6_clearText 5 = .ok (.aload_n 0, 1) := by decide +kernel
theorem dX6_clearText_6 : decode cX6_clearText 6 = .ok (.iconst 0, 1) := by decide +kernel
theorem dX6_clearText_7 : decode cX6_clearText 7 = .ok (.putfield 154, 3) := by decide +kernel
theorem dX6_clearText_10 : decode cX6_clearText 10 = .ok (.iload_n 1, 1) := by decide +kernel
theorem dX6_clearText_11 : decode cX6_clearText 11 = .ok (.ireturn, 1) := by decide +kernel
theorem dX6_sign_0 : decode cX6_sign 0 = .ok (.iload_n 1, 1) := by decide +kernel
theorem dX6_sign_1 : decode cX6_sign 1 = .ok (.aload_n 0, 1) := by decide +kernel
theorem dX6_sign_2 : decode cX6_sign 2 = .ok (.getfield 154, 3) := by decide +kernel
theorem dX6_sign_5 : decode cX6_sign 5 = .ok (.if_icmp .ge 12, 3) := by decide +kernel
theorem dX6_sign_8 : decode cX6_sign 8 = .ok (.aload_n 0, 1) := by decide +kernel
theorem dX6_sign_9 : decode cX6_sign 9 = .ok (.getfield 19, 3) := by decide +kernel
theorem dX6_sign_12 : decode cX6_sign 12 = .ok (.iload_n 1, 1) := by decide +kernel
theorem dX6_sign_13 : decode cX6_sign 13 = .ok (.iaload, 1) := by decide +kernel
theorem dX6_sign_14 : decode cX6_sign 14 = .ok (.goto 4, 3) := by decide +kernel
theorem dX6_sign_17 : decode cX6_sign 17 = .ok (.iconst (-1), 1) := by decide +kernel
theorem dX6_sign_18 : decode cX6_sign 18 = .ok (.ireturn, 1) := by decide +kernel
set_option maxRecDepth 20000 in
theorem ggX6_digit_X6_sign : GoodIn wsX6_digit wsX6_sign := goodIn_r _ [5, 6, 7, 11, 12, 13, 14, 15, 16, 17] (by decide +kernel) (by decide +kernel)
set_option maxRecDepth 20000 in
theorem gX6_digit_X6_sign : GoodIn wsX6_digit (wsV RX6 157 RX6 yX6_sign wsX6_sign) := goodIn_app (goodIn_of _ (by decide +kernel)) ggX6_digit_X6_sign
set_option maxRecDepth 20000 in
theorem ggX6_digit_X6_in : GoodIn wsX6_digit wsX6_in := goodIn_r _ [10] (by decide +kernel) (by decide +kernel)
set_option maxRecDepth 20000 in
theorem gX6_digit_X6_in : GoodIn wsX6_digit (va_wsS RX6 22 yX6_in wsX6_in) := goodIn_app (goodIn_of _ (by decide +kernel)) ggX6_digit_X6_in
theorem dX6_digit_0 : decode cX6_digit 0 = .ok (.aload_n 0, 1) := by decide +kernel
theorem dX6_digit_1 : decode cX6_digit 1 = .ok (.iload_n 1, 1) := by decide +kernel
theorem dX6_digit_2 : decode cX6_digit 2 = .ok (.invokevirtual 157, 3) := by decide +kernel
theorem dX6_digit_5 : decode cX6_digit 5 = .ok (.bipush 48, 2) := by decide +kernel
theorem dX6_digit_7 : decode cX6_digit 7 = .ok (.bipush 57, 2) := by decide +kernel
theorem dX6_digit_9 : decode cX6_digit 9 = .ok (.invokestatic 22, 3) := by decide +kernel
theorem dX6_digit_12 : decode cX6_digit 12 = .ok (.ifCond .eq 14, 3) := by decide +kernel
theorem dX6_digit_15 : decode cX6_digit 15 = .ok (.aload_n 0, 1) := by decide +kernel
theorem dX6_digit_16 : decode cX6_digit 16 = .ok (.iload_n 1, 1) := by decide +kernel
theorem dX6_digit_17 : decode cX6_digit 17 = .ok (.invokevirtual 157, 3) := by decide +kernel
theorem dX6_digit_20 : decode cX6_digit 20 = .ok (.bipush 48, 2) := by decide +kernel
theorem dX6_digit_22 : decode cX6_digit 22 = .ok (.isub, 1) := by decide +kernel
theorem dX6_digit_23 : decode cX6_digit 23 = .ok (.goto 4, 3) := by decide +kernel
theorem dX6_digit_26 : decode cX6_digit 26 = .ok (.iconst (-1), 1) := by decide +kernel
theorem dX6_digit_27 : decode cX6_digit 27 = .ok (.ireturn, 1) := by decide +kernel
set_option maxRecDepth 20000 in
theorem ggX6_behind_X6_sign : GoodIn wsX6_behind wsX6_sign := goodIn_r _ [5, 6, 7, 8, 9, 10, 11, 12, 13, 14] (by decide +kernel) (by decide +kernel)
set_option maxRecDepth 20000 in
theorem gX6_behind_X6_sign : GoodIn wsX6_behind (wsV RX6 157 RX6 yX6_sign wsX6_sign) := goodIn_app (goodIn_of _ (by decide +kernel)) ggX6_behind_X6_sign
theorem dX6_behind_0 : decode cX6_behind 0 = .ok (.iload_n 1, 1) := by decide +kernel
theorem dX6_behind_1 : decode cX6_behind 1 = .ok (.ifCond .ge 7, 3) := by decide +kernel
theorem dX6_behind_4 : decode cX6_behind 4 = .ok (.iload_n 1, 1) := by decide +kernel
theorem dX6_behind_5 : decode cX6_behind 5 = .ok (.goto 21, 3) := by decide +kernel
theorem dX6_behind_8 : decode cX6_behind 8 = .ok (.aload_n 0, 1) := by decide +kernel
theorem dX6_behind_9 : decode cX6_behind 9 = .ok (.iload_n 1, 1) := by decide +kernel
theorem dX6_behind_10 : decode cX6_behind 10 = .ok (.invokevirtual 157, 3) := by decide +kernel
theorem dX6_behind_13 : decode cX6_behind 13 = .ok (.iload_n 2, 1) := by decide +kernel
theorem dX6_behind_14 : decode cX6_behind 14 = .ok (.if_icmp .ne 9, 3) := by decide +kernel
theorem dX6_behind_17 : decode cX6_behind 17 = .ok (.iload_n 1, 1) := by decide +kernel
theorem dX6_behind_18 : decode cX6_behind 18 = .ok (.iconst 1, 1) := by decide +kernel
theorem dX6_behind_19 : decode cX6_behind 19 = .ok (.iadd, 1) := by decide +kernel
theorem dX6_behind_20 : decode cX6_behind 20 = .ok (.goto 6, 3) := by decide +kernel
theorem dX6_behind_23 : decode cX6_behind 23 = .ok (.iconst (-1), 1) := by decide +kernel
theorem dX6_behind_24 : decode cX6_behind 24 = .ok (.iload_n 1, 1) := by decide +kernel
theorem dX6_behind_25 : decode cX6_behind 25 = .ok (.isub, 1) := by decide +kernel
theorem dX6_behind_26 : decode cX6_behind 26 = .ok (.ireturn, 1) := by decide +kernel
set_option maxRecDepth 20000 in
theorem ggX6_digitEnd_X6_digit : GoodIn wsX6_digitEnd wsX6_digit := goodIn_r _ [5, 6, 7, 8, 4, 9, 10, 11, 12, 13, 14, 15, 16, 17, 18, 19, 20, 21] (by decide +kernel) (by decide +kernel)
set_option maxRecDepth 20000 in
theorem gX6_digitEnd_X6_digit : GoodIn wsX6_digitEnd (wsV RX6 160 RX6 yX6_digit wsX6_digit) := goodIn_app (goodIn_of _ (by decide +kernel)) ggX6_digitEnd_X6_digit
set_option maxRecDepth 20000 in
theorem ggX6_digitEnd_X6_in : GoodIn wsX6_digitEnd wsX6_in := goodIn_r _ [14] (by decide +kernel) (by decide +kernel)
set_option maxRecDepth 20000 in
theorem gX6_digitEnd_X6_in : GoodIn wsX6_digitEnd (va_wsS RX6 22 yX6_in wsX6_in) := goodIn_app (goodIn_of _ (by decide +kernel)) ggX6_digitEnd_X6_in
theorem dX6_digitEnd_0 : decode cX6_digitEnd 0 = .ok (.iload_n 1, 1) := by decide +kernel
theorem dX6_digitEnd_1 : decode cX6_digitEnd 1 = .ok (.ifCond .ge 7, 3) := by decide +kernel
theorem dX6_digitEnd_4 : decode cX6_digitEnd 4 = .ok (.iload_n 1, 1) := by decide +kernel
theorem dX6_digitEnd_5 : decode cX6_digitEnd 5 = .ok (.goto 25, 3) := by decide +kernel
theorem dX6_digitEnd_8 : decode cX6_digitEnd 8 = .ok (.aload_n 0, 1) := by decide +kernel
theorem dX6_digitEnd_9 : decode cX6_digitEnd 9 = .ok (.iload_n 1, 1) := by decide +kernel
theorem dX6_digitEnd_10 : decode cX6_digitEnd 10 = .ok (.invokevirtual 160, 3) := by decide +kernel
theorem dX6_digitEnd_13 : decode cX6_digitEnd 13 = .ok (.iload_n 2, 1) := by decide +kernel
theorem dX6_digitEnd_14 : decode cX6_digitEnd 14 = .ok (.iload_n 3, 1) := by decide +kernel
theorem dX6_digitEnd_15 : decode cX6_digitEnd 15 = .ok (.invokestatic 22, 3) := by decide +kernel
theorem dX6_digitEnd_18 : decode cX6_digitEnd 18 = .ok (.ifCond .eq 9, 3) := by decide +kernel
theorem dX6_digitEnd_21 : decode cX6_digitEnd 21 = .ok (.iload_n 1, 1) := by decide +kernel
theorem dX6_digitEnd_22 : decode cX6_digitEnd 22 = .ok (.iconst 1, 1) := by decide +kernel
theorem dX6_digitEnd_23 : decode cX6_digitEnd 23 = .ok (.iadd, 1) := by decide +kernel
theorem dX6_digitEnd_24 : decode cX6_digitEnd 24 = .ok (.goto 6, 3) := by decide +kernel
theorem dX6_digitEnd_27 : decode cX6_digitEnd 27 = .ok (.iconst (-1), 1) := by decide +kernel
theorem dX6_digitEnd_28 : decode cX6_digitEnd 28 = .ok (.iload_n 1, 1) := by decide +kernel
theorem dX6_digitEnd_29 : decode cX6_digitEnd 29 = .ok (.isub, 1) := by decide +kernel
theorem dX6_digitEnd_30 : decode cX6_digitEnd 30 = .ok (.ireturn, 1) := by decide +kernel
set_option maxRecDepth 20000 in
theorem ggX6_yardEnd_X6_sign : GoodIn wsX6_yardEnd wsX6_sign := goodIn_r _ [5, 6, 7, 19, 20, 21, 22, 23, 24, 25] (by decide +kernel) (by decide +kernel)
set_option maxRecDepth 20000 in
theorem gX6_yardEnd_X6_sign : GoodIn wsX6_yardEnd (wsV RX6 157 RX6 yX6_sign wsX6_sign) := goodIn_app (goodIn_of _ (by decide +kernel)) ggX6_yardEnd_X6_sign
set_option maxRecDepth 20000 in
theorem ggX6_yardEnd_X6_in : GoodIn wsX6_yardEnd wsX6_in := goodIn_r _ [10] (by decide +kernel) (by decide +kernel)
set_option maxRecDepth 20000 in
theorem gX6_yardEnd_X6_in : GoodIn wsX6_yardEnd (va_wsS RX6 22 yX6_in wsX6_in) := goodIn_app (goodIn_of _ (by decide +kernel)) ggX6_yardEnd_X6_in
set_option maxRecDepth 20000 in
theorem ggX6_yardEnd_X6_digitEnd : GoodIn wsX6_yardEnd wsX6_digitEnd := goodIn_r _ [14, 15, 16, 17, 4, 18, 1, 2, 3, 5, 6, 7, 8, 9, 10, 19, 20, 21, 22, 23, 24, 25] (by decide +kernel) (by decide +kernel)
set_option maxRecDepth 20000 in
theorem gX6_yardEnd_X6_digitEnd : GoodIn wsX6_yardEnd (wsV RX6 163 RX6 yX6_digitEnd wsX6_digitEnd) := goodIn_app (goodIn_of _ (by decide +kernel)) ggX6_yardEnd_X6_digitEnd
theorem dX6_yardEnd_0 : decode cX6_yardEnd 0 = .ok (.iload_n 1, 1) := by decide +kernel
theorem dX6_yardEnd_1 : decode cX6_yardEnd 1 = .ok (.ifCond .ge 5, 3) := by decide +kernel
theorem dX6_yardEnd_4 : decode cX6_yardEnd 4 = .ok (.iload_n 1, 1) := by decide +kernel
theorem dX6_yardEnd_5 : decode cX6_yardEnd 5 = .ok (.ireturn, 1) := by decide +kernel
theorem dX6_yardEnd_6 : decode cX6_yardEnd 6 = .ok (.aload_n 0, 1) := by decide +kernel
theorem dX6_yardEnd_7 : decode cX6_yardEnd 7 = .ok (.iload_n 1, 1) := by decide +kernel
theorem dX6_yardEnd_8 : decode cX6_yardEnd 8 = .ok (.invokevirtual 157, 3) := by decide +kernel
theorem dX6_yardEnd_11 : decode cX6_yardEnd 11 = .ok (.bipush 97, 2) := by decide +kernel
theorem dX6_yardEnd_13 : decode cX6_yardEnd 13 = .ok (.bipush 108, 2) := by decide +kernel
theorem dX6_yardEnd_15 : decode cX6_yardEnd 15 = .ok (.invokestatic 22, 3) := by decide +kernel
theorem dX6_yardEnd_18 : decode cX6_yardEnd 18 = .ok (.ifCond .eq 16, 3) := by decide +kernel
theorem dX6_yardEnd_21 : decode cX6_yardEnd 21 = .ok (.aload_n 0, 1) := by decide +kernel
theorem dX6_yardEnd_22 : decode cX6_yardEnd 22 = .ok (.iload_n 1, 1) := by decide +kernel
theorem dX6_yardEnd_23 : decode cX6_yardEnd 23 = .ok (.iconst 1, 1) := by decide +kernel
theorem dX6_yardEnd_24 : decode cX6_yardEnd 24 = .ok (.iadd, 1) := by decide +kernel
theorem dX6_yardEnd_25 : decode cX6_yardEnd 25 = .ok (.iconst 0, 1) := by decide +kernel
theorem dX6_yardEnd_26 : decode cX6_yardEnd 26 = .ok (.bipush 7, 2) := by decide +kernel
theorem dX6_yardEnd_28 : decode cX6_yardEnd 28 = .ok (.invokevirtual 163, 3) := by decide +kernel
theorem dX6_yardEnd_31 : decode cX6_yardEnd 31 = .ok (.goto 6, 3) := by decide +kernel
theorem dX6_yardEnd_34 : decode cX6_yardEnd 34 = .ok (.iconst (-1), 1) := by decide +kernel
theorem dX6_yardEnd_35 : decode cX6_yardEnd 35 = .ok (.iload_n 1, 1) := by decide +kernel
theorem dX6_yardEnd_36 : decode cX6_yardEnd 36 = .ok (.isub, 1) := by decide +kernel
theorem dX6_yardEnd_37 : decode cX6_yardEnd 37 = .ok (.ireturn, 1) := by decide +kernel
set_option maxRecDepth 20000 in
theorem ggX6_hourEnd_X6_digit : GoodIn wsX6_hourEnd wsX6_digit := goodIn_r _ [5, 6, 7, 8, 4, 9, 10, 11, 12, 13, 14, 15, 16, 17, 18, 19, 20, 21] (by decide +kernel) (by decide +kernel)
set_option maxRecDepth 20000 in
theorem gX6_hourEnd_X6_digit : GoodIn wsX6_hourEnd (wsV RX6 160 RX6 yX6_digit wsX6_digit) := goodIn_app (goodIn_of _ (by decide +kernel)) ggX6_hourEnd_X6_digit
theorem dX6_hourEnd_0 : decode cX6_hourEnd 0 = .ok (.iload_n 1, 1) := by decide +kernel
theorem dX6_hourEnd_1 : decode cX6_hourEnd 1 = .ok (.ifCond .ge 5, 3) := by decide +kernel
theorem dX6_hourEnd_4 : decode cX6_hourEnd 4 = .ok (.iload_n 1, 1) := by decide +kernel
theorem dX6_hourEnd_5 : decode cX6_hourEnd 5 = .ok (.ireturn, 1) := by decide +kernel
theorem dX6_hourEnd_6 : decode cX6_hourEnd 6 = .ok (.aload_n 0, 1) := by decide +kernel
theorem dX6_hourEnd_7 : decode cX6_hourEnd 7 = .ok (.iload_n 1, 1) := by decide +kernel
theorem dX6_hourEnd_8 : decode cX6_hourEnd 8 = .ok (.invokevirtual 160, 3) := by decide +kernel
theorem dX6_hourEnd_11 : decode cX6_hourEnd 11 = .ok (.ifCond .ge 7, 3) := by decide +kernel
theorem dX6_hourEnd_14 : decode cX6_hourEnd 14 = .ok (.iconst (-1), 1) := by decide +kernel
theorem dX6_hourEnd_15 : decode cX6_hourEnd 15 = .ok (.iload_n 1, 1) := by decide +kernel
theorem dX6_hourEnd_16 : decode cX6_hourEnd 16 = .ok (.isub, 1) := by decide +kernel
theorem dX6_hourEnd_17 : decode cX6_hourEnd 17 = .ok (.ireturn, 1) := by decide +kernel
theorem dX6_hourEnd_18 : decode cX6_hourEnd 18 = .ok (.aload_n 0, 1) := by decide +kernel
theorem dX6_hourEnd_19 : decode cX6_hourEnd 19 = .ok (.iload_n 1, 1) := by decide +kernel
theorem dX6_hourEnd_20 : decode cX6_hourEnd 20 = .ok (.invokevirtual 160, 3) := by decide +kernel
theorem dX6_hourEnd_23 : decode cX6_hourEnd 23 = .ok (.ifCond .le 38, 3) := by decide +kernel
theorem dX6_hourEnd_26 : decode cX6_hourEnd 26 = .ok (.aload_n 0, 1) := by decide +kernel
theorem dX6_hourEnd_27 : decode cX6_hourEnd 27 = .ok (.iload_n 1, 1) := by decide +kernel
theorem dX6_hourEnd_28 : decode cX6_hourEnd 28 = .ok (.iconst 1, 1) := by decide +kernel
theorem dX6_hourEnd_29 : decode cX6_hourEnd 29 = .ok (.iadd, 1) := by decide +kernel
theorem dX6_hourEnd_30 : decode cX6_hourEnd 30 = .ok (.invokevirtual 160, 3) := by decide +kernel
theorem dX6_hourEnd_33 : decode cX6_hourEnd 33 = .ok (.ifCond .lt 28, 3) := by decide +kernel
theorem dX6_hourEnd_36 : decode cX6_hourEnd 36 = .ok (.bipush 10, 2) := by decide +kernel
theorem dX6_hourEnd_38 : decode cX6_hourEnd 38 = .ok (.aload_n 0, 1) := by decide +kernel
theorem dX6_hourEnd_39 : decode cX6_hourEnd 39 = .ok (.iload_n 1, 1) := by decide +kernel
theorem dX6_hourEnd_40 : decode cX6_hourEnd 40 = .ok (.invokevirtual 160, 3) := by decide +kernel
theorem dX6_hourEnd_43 : decode cX6_hourEnd 43 = .ok (.imul, 1) := by decide +kernel
theorem dX6_hourEnd_44 : decode cX6_hourEnd 44 = .ok (.aload_n 0, 1) := by decide +kernel
theorem dX6_hourEnd_45 : decode cX6_hourEnd 45 = .ok (.iload_n 1, 1) := by decide +kernel
theorem dX6_hourEnd_46 : decode cX6_hourEnd 46 = .ok (.iconst 1, 1) := by decide +kernel
theorem dX6_hourEnd_47 : decode cX6_hourEnd 47 = .ok (.iadd, 1) := by decide +kernel
theorem dX6_hourEnd_48 : decode cX6_hourEnd 48 = .ok (.invokevirtual 160, 3) := by decide +kernel
theorem dX6_hourEnd_51 : decode cX6_hourEnd 51 = .ok (.iadd, 1) := by decide +kernel
theorem dX6_hourEnd_52 : decode cX6_hourEnd 52 = .ok (.bipush 24, 2) := by decide +kernel
theorem dX6_hourEnd_54 : decode cX6_hourEnd 54 = .ok (.if_icmp .ge 7, 3) := by decide +kernel
theorem dX6_hourEnd_57 : decode cX6_hourEnd 57 = .ok (.iconst 1, 1) := by decide +kernel
theorem dX6_hourEnd_58 : decode cX6_hourEnd 58 = .ok (.goto 4, 3) := by decide +kernel
theorem dX6_hourEnd_61 : decode cX6_hourEnd 61 = .ok (.iconst 0, 1) := by decide +kernel
theorem dX6_hourEnd_62 : decode cX6_hourEnd 62 = .ok (.istore_n 2, 1) := by decide +kernel
theorem dX6_hourEnd_63 : decode cX6_hourEnd 63 = .ok (.iload_n 2, 1) := by decide +kernel
theorem dX6_hourEnd_64 : decode cX6_hourEnd 64 = .ok (.ifCond .eq 9, 3) := by decide +kernel
theorem dX6_hourEnd_67 : decode cX6_hourEnd 67 = .ok (.iload_n 1, 1) := by decide +kernel
theorem dX6_hourEnd_68 : decode cX6_hourEnd 68 = .ok (.iconst 2, 1) := by decide +kernel
theorem dX6_hourEnd_69 : decode cX6_hourEnd 69 = .ok (.iadd, 1) := by decide +kernel
theorem dX6_hourEnd_70 : decode cX6_hourEnd 70 = .ok (.goto 6, 3) := by decide +kernel
theorem dX6_hourEnd_73 : decode cX6_hourEnd 73 = .ok (.iload_n 1, 1) := by decide +kernel
theorem dX6_hourEnd_74 : decode cX6_hourEnd 74 = .ok (.iconst 1, 1) := by decide +kernel
theorem dX6_hourEnd_75 : decode cX6_hourEnd 75 = .ok (.iadd, 1) := by decide +kernel
theorem dX6_hourEnd_76 : decode cX6_hourEnd 76 = .ok (.ireturn, 1) := by decide +kernel
set_option maxRecDepth 20000 in
theorem ggX6_yardIn_X6_digit : GoodIn wsX6_yardIn wsX6_digit := goodIn_r _ [5, 6, 7, 8, 4, 9, 10, 11, 12, 13, 14, 15, 16, 17, 18, 19, 20, 21] (by decide +kernel) (by decide +kernel)
set_option maxRecDepth 20000 in
theorem gX6_yardIn_X6_digit : GoodIn wsX6_yardIn (wsV RX6 160 RX6 yX6_digit wsX6_digit) := goodIn_app (goodIn_of _ (by decide +kernel)) ggX6_yardIn_X6_digit
set_option maxRecDepth 20000 in
theorem ggX6_yardIn_X6_sign : GoodIn wsX6_yardIn wsX6_sign := goodIn_r _ [9, 10, 11, 15, 16, 17, 18, 19, 20, 21] (by decide +kernel) (by decide +kernel)
set_option maxRecDepth 20000 in
theorem gX6_yardIn_X6_sign : GoodIn wsX6_yardIn (wsV RX6 157 RX6 yX6_sign wsX6_sign) := goodIn_app (goodIn_of _ (by decide +kernel)) ggX6_yardIn_X6_sign
theorem dX6_yardIn_0 : decode cX6_yardIn 0 = .ok (.bipush 12, 2) := by decide +kernel
theorem dX6_yardIn_2 : decode cX6_yardIn 2 = .ok (.aload_n 0, 1) := by decide +kernel
theorem dX6_yardIn_3 : decode cX6_yardIn 3 = .ok (.iload_n 1, 1) := by decide +kernel
theorem dX6_yardIn_4 : decode cX6_yardIn 4 = .ok (.iconst 1, 1) := by decide +kernel
theorem dX6_yardIn_5 : decode cX6_yardIn 5 = .ok (.iadd, 1) := by decide +kernel
theorem dX6_yardIn_6 : decode cX6_yardIn 6 = .ok (.invokevirtual 160, 3) := by decide +kernel
theorem dX6_yardIn_9 : decode cX6_yardIn 9 = .ok (.imul, 1) := by decide +kernel
theorem dX6_yardIn_10 : decode cX6_yardIn 10 = .ok (.aload_n 0, 1) := by decide +kernel
theorem dX6_yardIn_11 : decode cX6_yardIn 11 = .ok (.iload_n 1, 1) := by decide +kernel
theorem dX6_yardIn_12 : decode cX6_yardIn 12 = .ok (.invokevirtual 157, 3) := by decide +kernel
theorem dX6_yardIn_15 : decode cX6_yardIn 15 = .ok (.iadd, 1) := by decide +kernel
theorem dX6_yardIn_16 : decode cX6_yardIn 16 = .ok (.bipush 97, 2) := by decide +kernel
theorem dX6_yardIn_18 : decode cX6_yardIn 18 = .ok (.isub, 1) := by decide +kernel
theorem dX6_yardIn_19 : decode cX6_yardIn 19 = .ok (.ireturn, 1) := by decide +kernel
set_option maxRecDepth 20000 in
theorem ggX6_hourIn_X6_hourEnd : GoodIn wsX6_hourIn wsX6_hourEnd := goodIn_r _ [5, 6, 7, 8, 4, 9, 10, 11, 12, 13, 14, 15, 16, 17, 18, 19, 20, 21, 22, 23, 24, 25] (by decide +kernel) (by decide +kernel)
set_option maxRecDepth 20000 in
theorem gX6_hourIn_X6_hourEnd : GoodIn wsX6_hourIn (wsV RX6 166 RX6 yX6_hourEnd wsX6_hourEnd) := goodIn_app (goodIn_of _ (by decide +kernel)) ggX6_hourIn_X6_hourEnd
set_option maxRecDepth 20000 in
theorem ggX6_hourIn_X6_digit : GoodIn wsX6_hourIn wsX6_digit := goodIn_r _ [9, 10, 11, 12, 4, 13, 14, 15, 16, 17, 18, 19, 20, 21, 22, 23, 24, 25] (by decide +kernel) (by decide +kernel)
set_option maxRecDepth 20000 in
theorem gX6_hourIn_X6_digit : GoodIn wsX6_hourIn (wsV RX6 160 RX6 yX6_digit wsX6_digit) := goodIn_app (goodIn_of _ (by decide +kernel)) ggX6_hourIn_X6_digit
theorem dX6_hourIn_0 : decode cX6_hourIn 0 = .ok (.aload_n 0, 1) := by decide +kernel
theorem dX6_hourIn_1 : decode cX6_hourIn 1 = .ok (.iload_n 1, 1) := by decide +kernel
theorem dX6_hourIn_2 : decode cX6_hourIn 2 = .ok (.invokevirtual 166, 3) := by decide +kernel
theorem dX6_hourIn_5 : decode cX6_hourIn 5 = .ok (.iload_n 1, 1) := by decide +kernel
theorem dX6_hourIn_6 : decode cX6_hourIn 6 = .ok (.iconst 1, 1) := by decide +kernel
theorem dX6_hourIn_7 : decode cX6_hourIn 7 = .ok (.iadd, 1) := by decide +kernel
theorem dX6_hourIn_8 : decode cX6_hourIn 8 = .ok (.if_icmp .ne 11, 3) := by decide +kernel
theorem dX6_hourIn_11 : decode cX6_hourIn 11 = .ok (.aload_n 0, 1) := by decide +kernel
theorem dX6_hourIn_12 : decode cX6_hourIn 12 = .ok (.iload_n 1, 1) := by decide +kernel
theorem dX6_hourIn_13 : decode cX6_hourIn 13 = .ok (.invokevirtual 160, 3) := by decide +kernel
theorem dX6_hourIn_16 : decode cX6_hourIn 16 = .ok (.goto 19, 3) := by decide +kernel
theorem dX6_hourIn_19 : decode cX6_hourIn 19 = .ok (.bipush 10, 2) := by decide +kernel
theorem dX6_hourIn_21 : decode cX6_hourIn 21 = .ok (.aload_n 0, 1) := by decide +kernel
theorem dX6_hourIn_22 : decode cX6_hourIn 22 = .ok (.iload_n 1, 1) := by decide +kernel
theorem dX6_hourIn_23 : decode cX6_hourIn 23 = .ok (.invokevirtual 160, 3) := by decide +kernel
theorem dX6_hourIn_26 : decode cX6_hourIn 26 = .ok (.imul, 1) := by decide +kernel
theorem dX6_hourIn_27 : decode cX6_hourIn 27 = .ok (.aload_n 0, 1) := by decide +kernel
theorem dX6_hourIn_28 : decode cX6_hourIn 28 = .ok (.iload_n 1, 1) := by decide +kernel
theorem dX6_hourIn_29 : decode cX6_hourIn 29 = .ok (.iconst 1, 1) := by decide +kernel
theorem dX6_hourIn_30 : decode cX6_hourIn 30 = .ok (.iadd, 1) := by decide +kernel
theorem dX6_hourIn_31 : decode cX6_hourIn 31 = .ok (.invokevirtual 160, 3) := by decide +kernel
theorem dX6_hourIn_34 : decode cX6_hourIn 34 = .ok (.iadd, 1) := by decide +kernel
theorem dX6_hourIn_35 : decode cX6_hourIn 35 = .ok (.ireturn, 1) := by decide +kernel
set_option maxRecDepth 20000 in
theorem ggX6_partEnd_X6_sign : GoodIn wsX6_partEnd wsX6_sign := goodIn_r _ [5, 6, 7, 31, 32, 33, 34, 35, 36, 37] (by decide +kernel) (by decide +kernel)
set_option maxRecDepth 20000 in
theorem gX6_partEnd_X6_sign : GoodIn wsX6_partEnd (wsV RX6 157 RX6 yX6_sign wsX6_sign) := goodIn_app (goodIn_of _ (by decide +kernel)) ggX6_partEnd_X6_sign
set_option maxRecDepth 20000 in
theorem ggX6_partEnd_X6_digitEnd : GoodIn wsX6_partEnd wsX6_digitEnd := goodIn_r _ [11, 12, 13, 14, 4, 15, 1, 2, 3, 5, 6, 7, 16, 17, 18, 31, 32, 33, 34, 35, 36, 37] (by decide +kernel) (by decide +kernel)
set_option maxRecDepth 20000 in
theorem gX6_partEnd_X6_digitEnd : GoodIn wsX6_partEnd (wsV RX6 163 RX6 yX6_digitEnd wsX6_digitEnd) := goodIn_app (goodIn_of _ (by decide +kernel)) ggX6_partEnd_X6_digitEnd
set_option maxRecDepth 20000 in
theorem ggX6_partEnd_X6_behind : GoodIn wsX6_partEnd wsX6_behind := goodIn_r _ [22, 1, 2, 3, 4, 5, 6, 7, 31, 32, 33, 34, 35, 36, 37] (by decide +kernel) (by decide +kernel)
set_option maxRecDepth 20000 in
theorem gX6_partEnd_X6_behind : GoodIn wsX6_partEnd (wsV RX6 169 RX6 yX6_behind wsX6_behind) := goodIn_app (goodIn_of _ (by decide +kernel)) ggX6_partEnd_X6_behind
set_option maxRecDepth 20000 in
theorem ggX6_partEnd_X6_yardEnd : GoodIn wsX6_partEnd wsX6_yardEnd := goodIn_r _ [26, 1, 2, 3, 4, 5, 6, 7, 16, 17, 18, 8, 9, 10, 11, 12, 13, 14, 15, 31, 32, 33, 34, 35, 36, 37] (by decide +kernel) (by decide +kernel)
set_option maxRecDepth 20000 in
theorem gX6_partEnd_X6_yardEnd : GoodIn wsX6_partEnd (wsV RX6 172 RX6 yX6_yardEnd wsX6_yardEnd) := goodIn_app (goodIn_of _ (by decide +kernel)) ggX6_partEnd_X6_yardEnd
set_option maxRecDepth 20000 in
theorem ggX6_partEnd_X6_hourEnd : GoodIn wsX6_partEnd wsX6_hourEnd := goodIn_r _ [30, 12, 13, 14, 4, 15, 1, 2, 3, 5, 6, 7, 16, 17, 18, 31, 32, 33, 34, 35, 36, 37] (by decide +kernel) (by decide +kernel)
set_option maxRecDepth 20000 in
theorem gX6_partEnd_X6_hourEnd : GoodIn wsX6_partEnd (wsV RX6 166 RX6 yX6_hourEnd wsX6_hourEnd) := goodIn_app (goodIn_of _ (by decide +kernel)) ggX6_partEnd_X6_hourEnd
theorem dX6_partEnd_0 : decode cX6_partEnd 0 = .ok (.aload_n 0, 1) := by decide +kernel
theorem dX6_partEnd_1 : decode cX6_partEnd 1 = .ok (.iload_n 1, 1) := by decide +kernel
theorem dX6_partEnd_2 : decode cX6_partEnd 2 = .ok (.invokevirtual 157, 3) := by decide +kernel
theorem dX6_partEnd_5 : decode cX6_partEnd 5 = .ok (.lookupswitch 171 #[(99, 98), (104, 63), (109, 43), (119, 77)], 43) := by decide +kernel
theorem dX6_partEnd_48 : decode cX6_partEnd 48 = .ok (.aload_n 0, 1) := by decide +kernel
theorem dX6_partEnd_49 : decode cX6_partEnd 49 = .ok (.aload_n 0, 1) := by decide +kernel
theorem dX6_partEnd_50 : decode cX6_partEnd 50 = .ok (.aload_n 0, 1) := by decide +kernel
theorem dX6_partEnd_51 : decode cX6_partEnd 51 = .ok (.iload_n 1, 1) := by decide +kernel
theorem dX6_partEnd_52 : decode cX6_partEnd 52 = .ok (.iconst 1, 1) := by decide +kernel
theorem dX6_partEnd_53 : decode cX6_partEnd 53 = .ok (.iadd, 1) := by decide +kernel
theorem dX6_partEnd_54 : decode cX6_partEnd 54 = .ok (.iconst 1, 1) := by decide +kernel
theorem dX6_partEnd_55 : decode cX6_partEnd 55 = .ok (.iconst 5, 1) := by decide +kernel
theorem dX6_partEnd_56 : decode cX6_partEnd 56 = .ok (.invokevirtual 163, 3) := by decide +kernel
theorem dX6_partEnd_59 : decode cX6_partEnd 59 = .ok (.bipush 64, 2) := by decide +kernel
theorem dX6_partEnd_61 : decode cX6_partEnd 61 = .ok (.invokevirtual 169, 3) := by decide +kernel
theorem dX6_partEnd_64 : decode cX6_partEnd 64 = .ok (.invokevirtual 172, 3) := by decide +kernel
theorem dX6_partEnd_67 : decode cX6_partEnd 67 = .ok (.ireturn, 1) := by decide +kernel
theorem dX6_partEnd_68 : decode cX6_partEnd 68 = .ok (.aload_n 0, 1) := by decide +kernel
theorem dX6_partEnd_69 : decode cX6_partEnd 69 = .ok (.aload_n 0, 1) := by decide +kernel
theorem dX6_partEnd_70 : decode cX6_partEnd 70 = .ok (.iload_n 1, 1) := by decide +kernel
theorem dX6_partEnd_71 : decode cX6_partEnd 71 = .ok (.iconst 1, 1) := by decide +kernel
theorem dX6_partEnd_72 : decode cX6_partEnd 72 = .ok (.iadd, 1) := by decide +kernel
theorem dX6_partEnd_73 : decode cX6_partEnd 73 = .ok (.bipush 64, 2) := by decide +kernel
theorem dX6_partEnd_75 : decode cX6_partEnd 75 = .ok (.invokevirtual 169, 3) := by decide +kernel
theorem dX6_partEnd_78 : decode cX6_partEnd 78 = .ok (.invokevirtual 172, 3) := by decide +kernel
theorem dX6_partEnd_81 : decode cX6_partEnd 81 = .ok (.ireturn, 1) := by decide +kernel
theorem dX6_partEnd_82 : decode cX6_partEnd 82 = .ok (.aload_n 0, 1) := by decide +kernel
theorem dX6_partEnd_83 : decode cX6_partEnd 83 = .ok (.aload_n 0, 1) := by decide +kernel
theorem dX6_partEnd_84 : decode cX6_partEnd 84 = .ok (.aload_n 0, 1) := by decide +kernel
theorem dX6_partEnd_85 : decode cX6_partEnd 85 = .ok (.iload_n 1, 1) := by decide +kernel
theorem dX6_partEnd_86 : decode cX6_partEnd 86 = .ok (.iconst 1, 1) := by decide +kernel
theorem dX6_partEnd_87 : decode cX6_partEnd 87 = .ok (.iadd, 1) := by decide +kernel
theorem dX6_partEnd_88 : decode cX6_partEnd 88 = .ok (.invokevirtual 166, 3) := by decide +kernel
theorem dX6_partEnd_91 : decode cX6_partEnd 91 = .ok (.bipush 61, 2) := by decide +kernel
theorem dX6_partEnd_93 : decode cX6_partEnd 93 = .ok (.invokevirtual 169, 3) := by decide +kernel
theorem dX6_partEnd_96 : decode cX6_partEnd 96 = .ok (.iconst 0, 1) := by decide +kernel
theorem dX6_partEnd_97 : decode cX6_partEnd 97 = .ok (.bipush 9, 2) := by decide +kernel
theorem dX6_partEnd_99 : decode cX6_partEnd 99 = .ok (.invokevirtual 163, 3) := by decide +kernel
theorem dX6_partEnd_102 : decode cX6_partEnd 102 = .ok (.ireturn, 1) := by decide +kernel
theorem dX6_partEnd_103 : decode cX6_partEnd 103 = .ok (.aload_n 0, 1) := by decide +kernel
theorem dX6_partEnd_104 : decode cX6_partEnd 104 = .ok (.aload_n 0, 1) := by decide +kernel
theorem dX6_partEnd_105 : decode cX6_partEnd 105 = .ok (.iload_n 1, 1) := by decide +kernel
theorem dX6_partEnd_106 : decode cX6_partEnd 106 = .ok (.iconst 1, 1) := by decide +kernel
theorem dX6_partEnd_107 : decode cX6_partEnd 107 = .ok (.iadd, 1) := by decide +kernel
theorem dX6_partEnd_108 : decode cX6_partEnd 108 = .ok (.iconst 0, 1) := by decide +kernel
theorem dX6_partEnd_109 : decode cX6_partEnd 109 = .ok (.bipush 9, 2) := by decide +kernel
theorem dX6_partEnd_111 : decode cX6_partEnd 111 = .ok (.invokevirtual 163, 3) := by decide +kernel
theorem dX6_partEnd_114 : decode cX6_partEnd 114 = .ok (.iconst 0, 1) := by decide +kernel
theorem dX6_partEnd_115 : decode cX6_partEnd 115 = .ok (.iconst 3, 1) := by decide +kernel
theorem dX6_partEnd_116 : decode cX6_partEnd 116 = .ok (.invokevirtual 163, 3) := by decide +kernel
theorem dX6_partEnd_119 : decode cX6_partEnd 119 = .ok (.istore_n 2, 1) := by decide +kernel
theorem dX6_partEnd_120 : decode cX6_partEnd 120 = .ok (.iload_n 2, 1) := by decide +kernel
theorem dX6_partEnd_121 : decode cX6_partEnd 121 = .ok (.ifCond .lt 23, 3) := by decide +kernel
theorem dX6_partEnd_124 : decode cX6_partEnd 124 = .ok (.aload_n 0, 1) := by decide +kernel
theorem dX6_partEnd_125 : decode cX6_partEnd 125 = .ok (.iload_n 2, 1) := by decide +kernel
theorem dX6_partEnd_126 : decode cX6_partEnd 126 = .ok (.invokevirtual 157, 3) := by decide +kernel
theorem dX6_partEnd_129 : decode cX6_partEnd 129 = .ok (.bipush 110, 2) := by decide +kernel
theorem dX6_partEnd_131 : decode cX6_partEnd 131 = .ok (.if_icmp .eq 13, 3) := by decide +kernel
theorem dX6_partEnd_134 : decode cX6_partEnd 134 = .ok (.aload_n 0, 1) := by decide +kernel
theorem dX6_partEnd_135 : decode cX6_partEnd 135 = .ok (.iload_n 2, 1) := by decide +kernel
theorem dX6_partEnd_136 : decode cX6_partEnd 136 = .ok (.invokevirtual 157, 3) := by decide +kernel
theorem dX6_partEnd_139 : decode cX6_partEnd 139 = .ok (.bipush 115, 2) := by decide +kernel
theorem dX6_partEnd_141 : decode cX6_partEnd 141 = .ok (.if_icmp .ne 7, 3) := by decide +kernel
theorem dX6_partEnd_144 : decode cX6_partEnd 144 = .ok (.iconst 1, 1) := by decide +kernel
theorem dX6_partEnd_145 : decode cX6_partEnd 145 = .ok (.goto 4, 3) := by decide +kernel
theorem dX6_partEnd_148 : decode cX6_partEnd 148 = .ok (.iconst 0, 1) := by decide +kernel
theorem dX6_partEnd_149 : decode cX6_partEnd 149 = .ok (.istore_n 3, 1) := by decide +kernel
theorem dX6_partEnd_150 : decode cX6_partEnd 150 = .ok (.iload_n 2, 1) := by decide +kernel
theorem dX6_partEnd_151 : decode cX6_partEnd 151 = .ok (.ifCond .ge 7, 3) := by decide +kernel
theorem dX6_partEnd_154 : decode cX6_partEnd 154 = .ok (.iload_n 2, 1) := by decide +kernel
theorem dX6_partEnd_155 : decode cX6_partEnd 155 = .ok (.goto 20, 3) := by decide +kernel
theorem dX6_partEnd_158 : decode cX6_partEnd 158 = .ok (.iload_n 3, 1) := by decide +kernel
theorem dX6_partEnd_159 : decode cX6_partEnd 159 = .ok (.ifCond .eq 13, 3) := by decide +kernel
theorem dX6_partEnd_162 : decode cX6_partEnd 162 = .ok (.aload_n 0, 1) := by decide +kernel
theorem dX6_partEnd_163 : decode cX6_partEnd 163 = .ok (.iload_n 2, 1) := by decide +kernel
theorem dX6_partEnd_164 : decode cX6_partEnd 164 = .ok (.iconst 1, 1) := by decide +kernel
theorem dX6_partEnd_165 : decode cX6_partEnd 165 = .ok (.iadd, 1) := by decide +kernel
theorem dX6_partEnd_166 : decode cX6_partEnd 166 = .ok (.invokevirtual 166, 3) := by decide +kernel
theorem dX6_partEnd_169 : decode cX6_partEnd 169 = .ok (.goto 6, 3) := by decide +kernel
theorem dX6_partEnd_172 : decode cX6_partEnd 172 = .ok (.iconst (-1), 1) := by decide +kernel
theorem dX6_partEnd_173 : decode cX6_partEnd 173 = .ok (.iload_n 2, 1) := by decide +kernel
theorem dX6_partEnd_174 : decode cX6_partEnd 174 = .ok (.isub, 1) := by decide +kernel
theorem dX6_partEnd_175 : decode cX6_partEnd 175 = .ok (.ireturn, 1) := by decide +kernel
theorem dX6_partEnd_176 : decode cX6_partEnd 176 = .ok (.iconst (-1), 1) := by decide +kernel
theorem dX6_partEnd_177 : decode cX6_partEnd 177 = .ok (.iload_n 1, 1) := by decide +kernel
theorem dX6_partEnd_178 : decode cX6_partEnd 178 = .ok (.isub, 1) := by decide +kernel
theorem dX6_partEnd_179 : decode cX6_partEnd 179 = .ok (.ireturn, 1) := by decide +kernel
set_option maxRecDepth 20000 in
theorem ggX6_fault_X6_partEnd : GoodIn wsX6_fault wsX6_partEnd := goodIn_r _ [6, 7, 8, 9, 5, 10, 1, 11, 12, 13, 14, 15, 16, 17, 18, 19, 20, 21, 22, 23, 24, 25, 26, 27, 28, 29, 30, 31, 32, 33, 34, 35, 36, 37, 38, 39, 40, 41] (by decide +kernel) (by decide +kernel)
set_option maxRecDepth 20000 in
theorem gX6_fault_X6_partEnd : GoodIn wsX6_fault (wsV RX6 175 RX6 yX6_partEnd wsX6_partEnd) := goodIn_app (goodIn_of _ (by decide +kernel)) ggX6_fault_X6_partEnd
set_option maxRecDepth 20000 in
theorem ggX6_fault_X6_sign : GoodIn wsX6_fault wsX6_sign := goodIn_r _ [10, 1, 11, 35, 36, 37, 38, 39, 40, 41] (by decide +kernel) (by decide +kernel)
set_option maxRecDepth 20000 in
theorem gX6_fault_X6_sign : GoodIn wsX6_fault (wsV RX6 157 RX6 yX6_sign wsX6_sign) := goodIn_app (goodIn_of _ (by decide +kernel)) ggX6_fault_X6_sign
theorem dX6_fault_0 : decode cX6_fault 0 = .ok (.iconst 0, 1) := by decide +kernel
theorem dX6_fault_1 : decode cX6_fault 1 = .ok (.istore_n 1, 1) := by decide +kernel
theorem dX6_fault_2 : decode cX6_fault 2 = .ok (.iconst 0, 1) := by decide +kernel
theorem dX6_fault_3 : decode cX6_fault 3 = .ok (.istore_n 2, 1) := by decide +kernel
theorem dX6_fault_4 : decode cX6_fault 4 = .ok (.iload_n 2, 1) := by decide +kernel
theorem dX6_fault_5 : decode cX6_fault 5 = .ok (.bipush 60, 2) := by decide +kernel
theorem dX6_fault_7 : decode cX6_fault 7 = .ok (.if_icmp .ge 50, 3) := by decide +kernel
theorem dX6_fault_10 : decode cX6_fault 10 = .ok (.aload_n 0, 1) := by decide +kernel
theorem dX6_fault_11 : decode cX6_fault 11 = .ok (.iload_n 1, 1) := by decide +kernel
theorem dX6_fault_12 : decode cX6_fault 12 = .ok (.invokevirtual 175, 3) := by decide +kernel
theorem dX6_fault_15 : decode cX6_fault 15 = .ok (.istore_n 3, 1) := by decide +kernel
theorem dX6_fault_16 : decode cX6_fault 16 = .ok (.iload_n 3, 1) := by decide +kernel
theorem dX6_fault_17 : decode cX6_fault 17 = .ok (.ifCond .ge 7, 3) := by decide +kernel
theorem dX6_fault_20 : decode cX6_fault 20 = .ok (.iconst (-1), 1) := by decide +kernel
theorem dX6_fault_21 : decode cX6_fault 21 = .ok (.iload_n 3, 1) := by decide +kernel
theorem dX6_fault_22 : decode cX6_fault 22 = .ok (.isub, 1) := by decide +kernel
theorem dX6_fault_23 : decode cX6_fault 23 = .ok (.ireturn, 1) := by decide +kernel
theorem dX6_fault_24 : decode cX6_fault 24 = .ok (.iload_n 3, 1) := by decide +kernel
theorem dX6_fault_25 : decode cX6_fault 25 = .ok (.aload_n 0, 1) := by decide +kernel
theorem dX6_fault_26 : decode cX6_fault 26 = .ok (.getfield 154, 3) := by decide +kernel
theorem dX6_fault_29 : decode cX6_fault 29 = .ok (.if_icmp .ne 6, 3) := by decide +kernel
theorem dX6_fault_32 : decode cX6_fault 32 = .ok (.bipush (-5), 2) := by decide +kernel
theorem dX6_fault_34 : decode cX6_fault 34 = .ok (.ireturn, 1) := by decide +kernel
theorem dX6_fault_35 : decode cX6_fault 35 = .ok (.aload_n 0, 1) := by decide +kernel
theorem dX6_fault_36 : decode cX6_fault 36 = .ok (.iload_n 3, 1) := by decide +kernel
theorem dX6_fault_37 : decode cX6_fault 37 = .ok (.invokevirtual 157, 3) := by decide +kernel
theorem dX6_fault_40 : decode cX6_fault 40 = .ok (.bipush 59, 2) := by decide +kernel
theorem dX6_fault_42 : decode cX6_fault 42 = .ok (.if_icmp .eq 5, 3) := by decide +kernel
theorem dX6_fault_45 : decode cX6_fault 45 = .ok (.iload_n 3, 1) := by decide +kernel
theorem dX6_fault_46 : decode cX6_fault 46 = .ok (.ireturn, 1) := by decide +kernel
theorem dX6_fault_47 : decode cX6_fault 47 = .ok (.iload_n 3, 1) := by decide +kernel
theorem dX6_fault_48 : decode cX6_fault 48 = .ok (.iconst 1, 1) := by decide +kernel
theorem dX6_fault_49 : decode cX6_fault 49 = .ok (.iadd, 1) := by decide +kernel
theorem dX6_fault_50 : decode cX6_fault 50 = .ok (.istore_n 1, 1) := by decide +kernel
theorem dX6_fault_51 : decode cX6_fault 51 = .ok (.iinc 2 1, 3) := by decide +kernel
theorem dX6_fault_54 : decode cX6_fault 54 = .ok (.goto (-50), 3) := by decide +kernel
theorem dX6_fault_57 : decode cX6_fault 57 = .ok (.bipush (-5), 2) := by decide +kernel
theorem dX6_fault_59 : decode cX6_fault 59 = .ok (.ireturn, 1) := by decide +kernel
set_option maxRecDepth 20000 in
theorem ggX6_does_X6_sign : GoodIn wsX6_does wsX6_sign := goodIn_r _ [5, 6, 7, 134, 135, 136, 137, 138, 139, 140] (by decide +kernel) (by decide +kernel)
set_option maxRecDepth 20000 in
theorem gX6_does_X6_sign : GoodIn wsX6_does (wsV RX6 157 RX6 yX6_sign wsX6_sign) := goodIn_app (goodIn_of _ (by decide +kernel)) ggX6_does_X6_sign
set_option maxRecDepth 20000 in
theorem ggX6_does_X6_digit : GoodIn wsX6_does wsX6_digit := goodIn_r _ [11, 1, 2, 3, 4, 5, 6, 7, 12, 13, 14, 134, 135, 136, 137, 138, 139, 140] (by decide +kernel) (by decide +kernel)
set_option maxRecDepth 20000 in
theorem gX6_does_X6_digit : GoodIn wsX6_does (wsV RX6 160 RX6 yX6_digit wsX6_digit) := goodIn_app (goodIn_of _ (by decide +kernel)) ggX6_does_X6_digit
set_option maxRecDepth 20000 in
theorem ggX6_does_X6_yardIn : GoodIn wsX6_does wsX6_yardIn := goodIn_r _ [18, 8, 9, 10, 4, 11, 1, 2, 3, 5, 6, 7, 12, 13, 14, 134, 135, 136, 137, 138, 139, 140] (by decide +kernel) (by decide +kernel)
set_option maxRecDepth 20000 in
theorem gX6_does_X6_yardIn : GoodIn wsX6_does (wsV RX6 178 RX6 yX6_yardIn wsX6_yardIn) := goodIn_app (goodIn_of _ (by decide +kernel)) ggX6_does_X6_yardIn
set_option maxRecDepth 20000 in
theorem ggX6_does_X6_millComes : GoodIn wsX6_does wsX6_millComes := goodIn_r _ [22, 23, 24, 25, 4, 26, 12, 13, 14, 27, 28, 29, 30, 31, 32, 33, 34, 35, 36, 37, 38, 39, 40, 41, 42, 43, 44, 134, 135, 136, 137, 138, 139, 140] (by decide +kernel) (by decide +kernel)
set_option maxRecDepth 20000 in
theorem gX6_does_X6_millComes : GoodIn wsX6_does (wsV RX6 139 RX6 yX6_millComes wsX6_millComes) := goodIn_app (goodIn_of _ (by decide +kernel)) ggX6_does_X6_millComes
set_option maxRecDepth 20000 in
theorem ggX6_does_X6_houseComes : GoodIn wsX6_does wsX6_houseComes := goodIn_r _ [48, 23, 24, 25, 4, 26, 12, 13, 14, 27, 28, 29, 30, 31, 32, 33, 34, 35, 36, 37, 38, 39, 40, 41, 42, 43, 44, 134, 135, 136, 137, 138, 139, 140] (by decide +kernel) (by decide +kernel)
set_option maxRecDepth 20000 in
theorem gX6_does_X6_houseComes : GoodIn wsX6_does (wsV RX6 145 RX6 yX6_houseComes wsX6_houseComes) := goodIn_app (goodIn_of _ (by decide +kernel)) ggX6_does_X6_houseComes
set_option maxRecDepth 20000 in
theorem ggX6_does_X6_hourIn : GoodIn wsX6_does wsX6_hourIn := goodIn_r _ [52, 53, 54, 55, 4, 56, 8, 9, 10, 11, 1, 2, 3, 5, 6, 7, 12, 13, 14, 134, 135, 136, 137, 138, 139, 140] (by decide +kernel) (by decide +kernel)
set_option maxRecDepth 20000 in
theorem gX6_does_X6_hourIn : GoodIn wsX6_does (wsV RX6 181 RX6 yX6_hourIn wsX6_hourIn) := goodIn_app (goodIn_of _ (by decide +kernel)) ggX6_does_X6_hourIn
set_option maxRecDepth 20000 in
theorem ggX6_does_X6_hourEnd : GoodIn wsX6_does wsX6_hourEnd := goodIn_r _ [56, 8, 9, 10, 4, 11, 1, 2, 3, 5, 6, 7, 12, 13, 14, 134, 135, 136, 137, 138, 139, 140] (by decide +kernel) (by decide +kernel)
set_option maxRecDepth 20000 in
theorem gX6_does_X6_hourEnd : GoodIn wsX6_does (wsV RX6 166 RX6 yX6_hourEnd wsX6_hourEnd) := goodIn_app (goodIn_of _ (by decide +kernel)) ggX6_does_X6_hourEnd
set_option maxRecDepth 20000 in
theorem ggX6_does_X6_blows : GoodIn wsX6_does wsX6_blows := goodIn_r _ [60, 23, 134, 135, 136, 137, 138, 139, 140] (by decide +kernel) (by decide +kernel)
set_option maxRecDepth 20000 in
theorem gX6_does_X6_blows : GoodIn wsX6_does (wsV RX6 148 RX6 yX6_blows wsX6_blows) := goodIn_app (goodIn_of _ (by decide +kernel)) ggX6_does_X6_blows
set_option maxRecDepth 20000 in
theorem ggX6_does_X6_doesComplaint : GoodIn wsX6_does wsX6_doesComplaint := goodIn_r _ [64, 8, 9, 10, 4, 11, 1, 2, 3, 5, 6, 7, 12, 13, 14, 49, 50, 51, 52, 53, 54, 55, 56, 65, 66, 67, 68, 69, 70, 71, 72, 23, 73, 74, 75, 76, 77, 78, 79, 80, 81, 82, 83, 84, 85, 86, 87, 88, 89, 90, 42, 43, 44, 91, 92, 93, 94, 95, 96, 97, 35, 36, 37, 98, 99, 100, 101, 102, 103, 104, 105, 106, 107, 108, 109, 110, 111, 112, 113, 114, 115, 116, 117, 118, 119, 120, 121, 122, 123, 124, 125, 126, 127, 128, 129, 130, 131, 132, 133, 134, 135, 136, 137, 138, 139, 140] (by decide +kernel) (by decide +kernel)
set_option maxRecDepth 20000 in
theorem gX6_does_X6_doesComplaint : GoodIn wsX6_does (wsV RX6 184 RX6 yX6_doesComplaint wsX6_doesComplaint) := goodIn_app (goodIn_of _ (by decide +kernel)) ggX6_does_X6_doesComplaint
theorem dX6_does_0 : decode cX6_does 0 = .ok (.aload_n 0, 1) := by decide +kernel
theorem dX6_does_1 : decode cX6_does 1 = .ok (.iload_n 1, 1) := by decide +kernel
theorem dX6_does_2 : decode cX6_does 2 = .ok (.invokevirtual 157, 3) := by decide +kernel
theorem dX6_does_5 : decode cX6_does 5 = .ok (.lookupswitch 105 #[(104, 57), (109, 35), (119, 72)], 35) := by decide +kernel
theorem dX6_does_40 : decode cX6_does 40 = .ok (.aload_n 0, 1) := by decide +kernel
theorem dX6_does_41 : decode cX6_does 41 = .ok (.sipush 148, 3) := by decide +kernel
theorem dX6_does_44 : decode cX6_does 44 = .ok (.aload_n 0, 1) := by decide +kernel
theorem dX6_does_45 : decode cX6_does 45 = .ok (.iload_n 1, 1) := by decide +kernel
theorem dX6_does_46 : decode cX6_does 46 = .ok (.iconst 1, 1) := by decide +kernel
theorem dX6_does_47 : decode cX6_does 47 = .ok (.iadd, 1) := by decide +kernel
theorem dX6_does_48 : decode cX6_does 48 = .ok (.invokevirtual 160, 3) := by decide +kernel
theorem dX6_does_51 : decode cX6_does 51 = .ok (.aload_n 0, 1) := by decide +kernel
theorem dX6_does_52 : decode cX6_does 52 = .ok (.iload_n 1, 1) := by decide +kernel
theorem dX6_does_53 : decode cX6_does 53 = .ok (.iconst 3, 1) := by decide +kernel
theorem dX6_does_54 : decode cX6_does 54 = .ok (.iadd, 1) := by decide +kernel
theorem dX6_does_55 : decode cX6_does 55 = .ok (.invokevirtual 178, 3) := by decide +kernel
theorem dX6_does_58 : decode cX6_does 58 = .ok (.invokevirtual 139, 3) := by decide +kernel
theorem dX6_does_61 : decode cX6_does 61 = .ok (.ireturn, 1) := by decide +kernel
theorem dX6_does_62 : decode cX6_does 62 = .ok (.aload_n 0, 1) := by decide +kernel
theorem dX6_does_63 : decode cX6_does 63 = .ok (.sipush 148, 3) := by decide +kernel
theorem dX6_does_66 : decode cX6_does 66 = .ok (.aload_n 0, 1) := by decide +kernel
theorem dX6_does_67 : decode cX6_does 67 = .ok (.iload_n 1, 1) := by decide +kernel
theorem dX6_does_68 : decode cX6_does 68 = .ok (.iconst 2, 1) := by decide +kernel
theorem dX6_does_69 : decode cX6_does 69 = .ok (.iadd, 1) := by decide +kernel
theorem dX6_does_70 : decode cX6_does 70 = .ok (.invokevirtual 178, 3) := by decide +kernel
theorem dX6_does_73 : decode cX6_does 73 = .ok (.invokevirtual 145, 3) := by decide +kernel
theorem dX6_does_76 : decode cX6_does 76 = .ok (.ireturn, 1) := by decide +kernel
theorem dX6_does_77 : decode cX6_does 77 = .ok (.aload_n 0, 1) := by decide +kernel
theorem dX6_does_78 : decode cX6_does 78 = .ok (.iload_n 1, 1) := by decide +kernel
theorem dX6_does_79 : decode cX6_does 79 = .ok (.iconst 1, 1) := by decide +kernel
theorem dX6_does_80 : decode cX6_does 80 = .ok (.iadd, 1) := by decide +kernel
theorem dX6_does_81 : decode cX6_does 81 = .ok (.invokevirtual 181, 3) := by decide +kernel
theorem dX6_does_84 : decode cX6_does 84 = .ok (.istore_n 2, 1) := by decide +kernel
theorem dX6_does_85 : decode cX6_does 85 = .ok (.aload_n 0, 1) := by decide +kernel
theorem dX6_does_86 : decode cX6_does 86 = .ok (.sipush 148, 3) := by decide +kernel
theorem dX6_does_89 : decode cX6_does 89 = .ok (.iload_n 2, 1) := by decide +kernel
theorem dX6_does_90 : decode cX6_does 90 = .ok (.iload_n 2, 1) := by decide +kernel
theorem dX6_does_91 : decode cX6_does 91 = .ok (.aload_n 0, 1) := by decide +kernel
theorem dX6_does_92 : decode cX6_does 92 = .ok (.aload_n 0, 1) := by decide +kernel
theorem dX6_does_93 : decode cX6_does 93 = .ok (.iload_n 1, 1) := by decide +kernel
theorem dX6_does_94 : decode cX6_does 94 = .ok (.iconst 1, 1) := by decide +kernel
theorem dX6_does_95 : decode cX6_does 95 = .ok (.iadd, 1) := by decide +kernel
theorem dX6_does_96 : decode cX6_does 96 = .ok (.invokevirtual 166, 3) := by decide +kernel
theorem dX6_does_99 : decode cX6_does 99 = .ok (.iconst 1, 1) := by decide +kernel
theorem dX6_does_100 : decode cX6_does 100 = .ok (.iadd, 1) := by decide +kernel
theorem dX6_does_101 : decode cX6_does 101 = .ok (.invokevirtual 160, 3) := by decide +kernel
theorem dX6_does_104 : decode cX6_does 104 = .ok (.invokevirtual 148, 3) := by decide +kernel
theorem dX6_does_107 : decode cX6_does 107 = .ok (.istore_n 3, 1) := by decide +kernel
theorem dX6_does_108 : decode cX6_does 108 = .ok (.iconst 0, 1) := by decide +kernel
theorem dX6_does_109 : decode cX6_does 109 = .ok (.ireturn, 1) := by decide +kernel
theorem dX6_does_110 : decode cX6_does 110 = .ok (.aload_n 0, 1) := by decide +kernel
theorem dX6_does_111 : decode cX6_does 111 = .ok (.iload_n 1, 1) := by decide +kernel
theorem dX6_does_112 : decode cX6_does 112 = .ok (.invokevirtual 184, 3) := by decide +kernel
theorem dX6_does_115 : decode cX6_does 115 = .ok (.ireturn, 1) := by decide +kernel
set_option maxRecDepth 20000 in
theorem ggX6_doesComplaint_X6_digit : GoodIn wsX6_doesComplaint wsX6_digit := goodIn_r _ [5, 6, 7, 8, 4, 9, 10, 11, 12, 13, 14, 99, 100, 101, 102, 103, 104, 105] (by decide +kernel) (by decide +kernel)
set_option maxRecDepth 20000 in
theorem gX6_doesComplaint_X6_digit : GoodIn wsX6_doesComplaint (wsV RX6 160 RX6 yX6_digit wsX6_digit) := goodIn_app (goodIn_of _ (by decide +kernel)) ggX6_doesComplaint_X6_digit
set_option maxRecDepth 20000 in
theorem ggX6_doesComplaint_X6_sign : GoodIn wsX6_doesComplaint wsX6_sign := goodIn_r _ [9, 10, 11, 99, 100, 101, 102, 103, 104, 105] (by decide +kernel) (by decide +kernel)
set_option maxRecDepth 20000 in
theorem gX6_doesComplaint_X6_sign : GoodIn wsX6_doesComplaint (wsV RX6 157 RX6 yX6_sign wsX6_sign) := goodIn_app (goodIn_of _ (by decide +kernel)) ggX6_doesComplaint_X6_sign
set_option maxRecDepth 20000 in
theorem ggX6_doesComplaint_X6_hourIn : GoodIn wsX6_doesComplaint wsX6_hourIn := goodIn_r _ [18, 19, 20, 21, 4, 22, 1, 2, 3, 5, 6, 7, 8, 9, 10, 11, 12, 13, 14, 99, 100, 101, 102, 103, 104, 105] (by decide +kernel) (by decide +kernel)
set_option maxRecDepth 20000 in
theorem gX6_doesComplaint_X6_hourIn : GoodIn wsX6_doesComplaint (wsV RX6 181 RX6 yX6_hourIn wsX6_hourIn) := goodIn_app (goodIn_of _ (by decide +kernel)) ggX6_doesComplaint_X6_hourIn
set_option maxRecDepth 20000 in
theorem ggX6_doesComplaint_X6_wrong : GoodIn wsX6_doesComplaint wsX6_wrong := goodIn_r _ [26, 27, 28, 29, 4, 30, 31, 12, 13, 14, 32, 33, 34, 35, 36, 37, 38, 39, 40, 41, 99, 100, 101, 102, 103, 104, 105] (by decide +kernel) (by decide +kernel)
set_option maxRecDepth 20000 in
theorem gX6_doesComplaint_X6_wrong : GoodIn wsX6_doesComplaint (wsV RX6 102 RX6 yX6_wrong wsX6_wrong) := goodIn_app (goodIn_of _ (by decide +kernel)) ggX6_doesComplaint_X6_wrong
set_option maxRecDepth 20000 in
theorem ggX6_doesComplaint_X6_complains : GoodIn wsX6_doesComplaint wsX6_complains := goodIn_r _ [45, 31, 46, 47, 48, 4, 49, 50, 51, 52, 53, 54, 55, 56, 57, 58, 59, 60, 61, 62, 63, 64, 65, 66, 67, 68, 69, 70, 71, 72, 73, 74, 75, 76, 77, 78, 79, 80, 81, 82, 83, 84, 85, 86, 87, 88, 12, 13, 14, 89, 90, 91, 92, 93, 94, 95, 96, 97, 98, 99, 100, 101, 102, 103, 104, 105] (by decide +kernel) (by decide +kernel)
set_option maxRecDepth 20000 in
theorem gX6_doesComplaint_X6_complains : GoodIn wsX6_doesComplaint (wsV RX6 108 RX6 yX6_complains wsX6_complains) := goodIn_app (goodIn_of _ (by decide +kernel)) ggX6_doesComplaint_X6_complains
theorem dX6_doesComplaint_0 : decode cX6_doesComplaint 0 = .ok (.aload_n 0, 1) := by decide +kernel
theorem dX6_doesComplaint_1 : decode cX6_doesComplaint 1 = .ok (.iload_n 1, 1) := by decide +kernel
theorem dX6_doesComplaint_2 : decode cX6_doesComplaint 2 = .ok (.iconst 1, 1) := by decide +kernel
theorem dX6_doesComplaint_3 : decode cX6_doesComplaint 3 = .ok (.iadd, 1) := by decide +kernel
theorem dX6_doesComplaint_4 : decode cX6_doesComplaint 4 = .ok (.invokevirtual 160, 3) := by decide +kernel
theorem dX6_doesComplaint_7 : decode cX6_doesComplaint 7 = .ok (.istore_n 2, 1) := by decide +kernel
theorem dX6_doesComplaint_8 : decode cX6_doesComplaint 8 = .ok (.aload_n 0, 1) := by decide +kernel
theorem dX6_doesComplaint_9 : decode cX6_doesComplaint 9 = .ok (.iload_n 1, 1) := by decide +kernel
theorem dX6_doesComplaint_10 : decode cX6_doesComplaint 10 = .ok (.iconst 2, 1) := by decide +kernel
theorem dX6_doesComplaint_11 : decode cX6_doesComplaint 11 = .ok (.iadd, 1) := by decide +kernel
theorem dX6_doesComplaint_12 : decode cX6_doesComplaint 12 = .ok (.invokevirtual 160, 3) := by decide +kernel
theorem dX6_doesComplaint_15 : decode cX6_doesComplaint 15 = .ok (.istore_n 3, 1) := by decide +kernel
theorem dX6_doesComplaint_16 : decode cX6_doesComplaint 16 = .ok (.aload_n 0, 1) := by decide +kernel
theorem dX6_doesComplaint_17 : decode cX6_doesComplaint 17 = .ok (.iload_n 1, 1) := by decide +kernel
theorem dX6_doesComplaint_18 : decode cX6_doesComplaint 18 = .ok (.iconst 3, 1) := by decide +kernel
theorem dX6_doesComplaint_19 : decode cX6_doesComplaint 19 = .ok (.iadd, 1) := by decide +kernel
theorem dX6_doesComplaint_20 : decode cX6_doesComplaint 20 = .ok (.invokevirtual 157, 3) := by decide +kernel
theorem dX6_doesComplaint_23 : decode cX6_doesComplaint 23 = .ok (.bipush 115, 2) := by decide +kernel
theorem dX6_doesComplaint_25 : decode cX6_doesComplaint 25 = .ok (.if_icmp .ne 7, 3) := by decide +kernel
theorem dX6_doesComplaint_28 : decode cX6_doesComplaint 28 = .ok (.iconst 1, 1) := by decide +kernel
theorem dX6_doesComplaint_29 : decode cX6_doesComplaint 29 = .ok (.goto 4, 3) := by decide +kernel
theorem dX6_doesComplaint_32 : decode cX6_doesComplaint 32 = .ok (.iconst 0, 1) := by decide +kernel
theorem dX6_doesComplaint_33 : decode cX6_doesComplaint 33 = .ok (.istore 4, 2) := by decide +kernel
theorem dX6_doesComplaint_35 : decode cX6_doesComplaint 35 = .ok (.aload_n 0, 1) := by decide +kernel
theorem dX6_doesComplaint_36 : decode cX6_doesComplaint 36 = .ok (.sipush 148, 3) := by decide +kernel
theorem dX6_doesComplaint_39 : decode cX6_doesComplaint 39 = .ok (.iload_n 2, 1) := by decide +kernel
theorem dX6_doesComplaint_40 : decode cX6_doesComplaint 40 = .ok (.iload_n 3, 1) := by decide +kernel
theorem dX6_doesComplaint_41 : decode cX6_doesComplaint 41 = .ok (.iload 4, 2) := by decide +kernel
theorem dX6_doesComplaint_43 : decode cX6_doesComplaint 43 = .ok (.aload_n 0, 1) := by decide +kernel
theorem dX6_doesComplaint_44 : decode cX6_doesComplaint 44 = .ok (.iload_n 1, 1) := by decide +kernel
theorem dX6_doesComplaint_45 : decode cX6_doesComplaint 45 = .ok (.iconst 4, 1) := by decide +kernel
theorem dX6_doesComplaint_46 : decode cX6_doesComplaint 46 = .ok (.iadd, 1) := by decide +kernel
theorem dX6_doesComplaint_47 : decode cX6_doesComplaint 47 = .ok (.invokevirtual 181, 3) := by decide +kernel
theorem dX6_doesComplaint_50 : decode cX6_doesComplaint 50 = .ok (.invokevirtual 102, 3) := by decide +kernel
theorem dX6_doesComplaint_53 : decode cX6_doesComplaint 53 = .ok (.istore 5, 2) := by decide +kernel
theorem dX6_doesComplaint_55 : decode cX6_doesComplaint 55 = .ok (.iload 5, 2) := by decide +kernel
theorem dX6_doesComplaint_57 : decode cX6_doesComplaint 57 = .ok (.ifCond .ge 7, 3) := by decide +kernel
theorem dX6_doesComplaint_60 : decode cX6_doesComplaint 60 = .ok (.iconst 0, 1) := by decide +kernel
theorem dX6_doesComplaint_61 : decode cX6_doesComplaint 61 = .ok (.goto 21, 3) := by decide +kernel
theorem dX6_doesComplaint_64 : decode cX6_doesComplaint 64 = .ok (.aload_n 0, 1) := by decide +kernel
theorem dX6_doesComplaint_65 : decode cX6_doesComplaint 65 = .ok (.sipush 148, 3) := by decide +kernel
theorem dX6_doesComplaint_68 : decode cX6_doesComplaint 68 = .ok (.iload_n 2, 1) := by decide +kernel
theorem dX6_doesComplaint_69 : decode cX6_doesComplaint 69 = .ok (.iload_n 3, 1) := by decide +kernel
theorem dX6_doesComplaint_70 : decode cX6_doesComplaint 70 = .ok (.iload 4, 2) := by decide +kernel
theorem dX6_doesComplaint_72 : decode cX6_doesComplaint 72 = .ok (.aload_n 0, 1) := by decide +kernel
theorem dX6_doesComplaint_73 : decode cX6_doesComplaint 73 = .ok (.iload_n 1, 1) := by decide +kernel
theorem dX6_doesComplaint_74 : decode cX6_doesComplaint 74 = .ok (.iconst 4, 1) := by decide +kernel
theorem dX6_doesComplaint_75 : decode cX6_doesComplaint 75 = .ok (.iadd, 1) := by decide +kernel
theorem dX6_doesComplaint_76 : decode cX6_doesComplaint 76 = .ok (.invokevirtual 181, 3) := by decide +kernel
theorem dX6_doesComplaint_79 : decode cX6_doesComplaint 79 = .ok (.invokevirtual 108, 3) := by decide +kernel
theorem dX6_doesComplaint_82 : decode cX6_doesComplaint 82 = .ok (.istore 6, 2) := by decide +kernel
theorem dX6_doesComplaint_84 : decode cX6_doesComplaint 84 = .ok (.iload 5, 2) := by decide +kernel
theorem dX6_doesComplaint_86 : decode cX6_doesComplaint 86 = .ok (.ireturn, 1) := by decide +kernel
set_option maxRecDepth 20000 in
theorem ggX6_doAll_X6_fault : GoodIn wsX6_doAll wsX6_fault := goodIn_r _ [6, 1, 7, 8, 9, 5, 10, 11, 12, 13, 14, 15, 16, 17, 18, 19, 20, 21, 22, 23, 24, 25, 26, 27, 28, 29, 30, 31, 32, 33, 34, 35, 36, 37, 38, 176, 177, 178, 179, 180, 181, 182] (by decide +kernel) (by decide +kernel)
set_option maxRecDepth 20000 in
theorem gX6_doAll_X6_fault : GoodIn wsX6_doAll (wsV RX6 187 RX6 yX6_fault wsX6_fault) := goodIn_app (goodIn_of _ (by decide +kernel)) ggX6_doAll_X6_fault
set_option maxRecDepth 20000 in
theorem ggX6_doAll_X6_copies : GoodIn wsX6_doAll wsX6_copies := goodIn_r _ [42, 43, 176, 177, 178, 179, 180, 181, 182] (by decide +kernel) (by decide +kernel)
set_option maxRecDepth 20000 in
theorem gX6_doAll_X6_copies : GoodIn wsX6_doAll (wsV RX6 105 RX6 yX6_copies wsX6_copies) := goodIn_app (goodIn_of _ (by decide +kernel)) ggX6_doAll_X6_copies
set_option maxRecDepth 20000 in
theorem ggX6_doAll_X6_does : GoodIn wsX6_doAll wsX6_does := goodIn_r _ [47, 11, 12, 13, 5, 14, 1, 15, 20, 21, 22, 23, 24, 25, 26, 48, 49, 50, 51, 52, 53, 54, 55, 43, 56, 57, 58, 59, 60, 61, 62, 63, 64, 65, 66, 67, 68, 69, 70, 71, 72, 73, 74, 75, 76, 77, 78, 79, 80, 81, 82, 83, 84, 35, 36, 37, 38, 85, 86, 87, 88, 89, 90, 91, 92, 93, 94, 95, 96, 97, 98, 99, 100, 101, 102, 103, 104, 105, 106, 107, 108, 109, 110, 111, 112, 113, 114, 115, 116, 117, 118, 119, 120, 121, 122, 123, 124, 125, 126, 127, 128, 129, 130, 131, 132, 133, 134, 135, 136, 137, 138, 139, 140, 141, 142, 143, 144, 145, 146, 147, 148, 149, 150, 151, 152, 153, 154, 155, 156, 157, 158, 159, 160, 161, 176, 177, 178, 179, 180, 181, 182] (by decide +kernel) (by decide +kernel)
set_option maxRecDepth 20000 in
theorem gX6_doAll_X6_does : GoodIn wsX6_doAll (wsV RX6 191 RX6 yX6_does wsX6_does) := goodIn_app (goodIn_of _ (by decide +kernel)) ggX6_doAll_X6_does
set_option maxRecDepth 20000 in
theorem ggX6_doAll_X6_partEnd : GoodIn wsX6_doAll wsX6_partEnd := goodIn_r _ [10, 11, 12, 13, 5, 14, 1, 15, 16, 17, 18, 19, 20, 21, 22, 23, 24, 25, 26, 27, 28, 29, 30, 31, 32, 33, 34, 35, 36, 37, 38, 176, 177, 178, 179, 180, 181, 182] (by decide +kernel) (by decide +kernel)
set_option maxRecDepth 20000 in
theorem gX6_doAll_X6_partEnd : GoodIn wsX6_doAll (wsV RX6 175 RX6 yX6_partEnd wsX6_partEnd) := goodIn_app (goodIn_of _ (by decide +kernel)) ggX6_doAll_X6_partEnd
set_option maxRecDepth 20000 in
theorem ggX6_doAll_X6_acts : GoodIn wsX6_doAll wsX6_acts := goodIn_r _ [165, 166, 167, 168, 5, 169, 43, 170, 171, 172, 173, 174, 175, 176, 177, 178, 179, 180, 181, 182] (by decide +kernel) (by decide +kernel)
set_option maxRecDepth 20000 in
theorem gX6_doAll_X6_acts : GoodIn wsX6_doAll (wsV RX6 142 RX6 yX6_acts wsX6_acts) := goodIn_app (goodIn_of _ (by decide +kernel)) ggX6_doAll_X6_acts
theorem dX6_doAll_0 : decode cX6_doAll 0 = .ok (.aload_n 0, 1) := by decide +kernel
theorem dX6_doAll_1 : decode cX6_doAll 1 = .ok (.invokevirtual 187, 3) := by decide +kernel
theorem dX6_doAll_4 : decode cX6_doAll 4 = .ok (.istore_n 1, 1) := by decide +kernel
theorem dX6_doAll_5 : decode cX6_doAll 5 = .ok (.iload_n 1, 1) := by decide +kernel
theorem dX6_doAll_6 : decode cX6_doAll 6 = .ok (.bipush (-5), 2) := by decide +kernel
theorem dX6_doAll_8 : decode cX6_doAll 8 = .ok (.if_icmp .eq 8, 3) := by decide +kernel
theorem dX6_doAll_11 : decode cX6_doAll 11 = .ok (.bipush (-100), 2) := by decide +kernel
theorem dX6_doAll_13 : decode cX6_doAll 13 = .ok (.iload_n 1, 1) := by decide +kernel
theorem dX6_doAll_14 : decode cX6_doAll 14 = .ok (.isub, 1) := by decide +kernel
theorem dX6_doAll_15 : decode cX6_doAll 15 = .ok (.ireturn, 1) := by decide +kernel
theorem dX6_doAll_16 : decode cX6_doAll 16 = .ok (.aload_n 0, 1) := by decide +kernel
theorem dX6_doAll_17 : decode cX6_doAll 17 = .ok (.invokevirtual 105, 3) := by decide +kernel
theorem dX6_doAll_20 : decode cX6_doAll 20 = .ok (.iconst 0, 1) := by decide +kernel
theorem dX6_doAll_21 : decode cX6_doAll 21 = .ok (.istore_n 2, 1) := by decide +kernel
theorem dX6_doAll_22 : decode cX6_doAll 22 = .ok (.iconst 0, 1) := by decide +kernel
theorem dX6_doAll_23 : decode cX6_doAll 23 = .ok (.istore_n 3, 1) := by decide +kernel
theorem dX6_doAll_24 : decode cX6_doAll 24 = .ok (.iload_n 3, 1) := by decide +kernel
theorem dX6_doAll_25 : decode cX6_doAll 25 = .ok (.aload_n 0, 1) := by decide +kernel
theorem dX6_doAll_26 : decode cX6_doAll 26 = .ok (.getfield 154, 3) := by decide +kernel
theorem dX6_doAll_29 : decode cX6_doAll 29 = .ok (.if_icmp .ge 32, 3) := by decide +kernel
theorem dX6_doAll_32 : decode cX6_doAll 32 = .ok (.aload_n 0, 1) := by decide +kernel
theorem dX6_doAll_33 : decode cX6_doAll 33 = .ok (.iload_n 3, 1) := by decide +kernel
theorem dX6_doAll_34 : decode cX6_doAll 34 = .ok (.invokevirtual 191, 3) := by decide +kernel
theorem dX6_doAll_37 : decode cX6_doAll 37 = .ok (.istore 4, 2) := by decide +kernel
theorem dX6_doAll_39 : decode cX6_doAll 39 = .ok (.iload 4, 2) := by decide +kernel
theorem dX6_doAll_41 : decode cX6_doAll 41 = .ok (.ifCond .ge 6, 3) := by decide +kernel
theorem dX6_doAll_44 : decode cX6_doAll 44 = .ok (.iload 4, 2) := by decide +kernel
theorem dX6_doAll_46 : decode cX6_doAll 46 = .ok (.ireturn, 1) := by decide +kernel
theorem dX6_doAll_47 : decode cX6_doAll 47 = .ok (.iinc 2 1, 3) := by decide +kernel
theorem dX6_doAll_50 : decode cX6_doAll 50 = .ok (.aload_n 0, 1) := by decide +kernel
theorem dX6_doAll_51 : decode cX6_doAll 51 = .ok (.iload_n 3, 1) := by decide +kernel
theorem dX6_doAll_52 : decode cX6_doAll 52 = .ok (.invokevirtual 175, 3) := by decide +kernel
theorem dX6_doAll_55 : decode cX6_doAll 55 = .ok (.iconst 1, 1) := by decide +kernel
theorem dX6_doAll_56 : decode cX6_doAll 56 = .ok (.iadd, 1) := by decide +kernel
theorem dX6_doAll_57 : decode cX6_doAll 57 = .ok (.istore_n 3, 1) := by decide +kernel
theorem dX6_doAll_58 : decode cX6_doAll 58 = .ok (.goto (-34), 3) := by decide +kernel
theorem dX6_doAll_61 : decode cX6_doAll 61 = .ok (.aload_n 0, 1) := by decide +kernel
theorem dX6_doAll_62 : decode cX6_doAll 62 = .ok (.iload_n 2, 1) := by decide +kernel
theorem dX6_doAll_63 : decode cX6_doAll 63 = .ok (.invokevirtual 142, 3) := by decide +kernel
theorem dX6_doAll_66 : decode cX6_doAll 66 = .ok (.ireturn, 1) := by decide +kernel
theorem dX6_undo_0 : decode cX6_undo 0 = .ok (.aload_n 0, 1) := by decide +kernel
theorem dX6_undo_1 : decode cX6_undo 1 = .ok (.getfield 26, 3) := by decide +kernel
theorem dX6_undo_4 : decode cX6_undo 4 = .ok (.ifCond .ne 6, 3) := by decide +kernel
theorem dX6_undo_7 : decode cX6_undo 7 = .ok (.bipush (-5), 2) := by decide +kernel
theorem dX6_undo_9 : decode cX6_undo 9 = .ok (.ireturn, 1) := by decide +kernel
theorem dX6_undo_10 : decode cX6_undo 10 = .ok (.aload_n 0, 1) := by decide +kernel
theorem dX6_undo_11 : decode cX6_undo 11 = .ok (.dup, 1) := by decide +kernel
theorem dX6_undo_12 : decode cX6_undo 12 = .ok (.getfield 26, 3) := by decide +kernel
theorem dX6_undo_15 : decode cX6_undo 15 = .ok (.iconst 1, 1) := by decide +kernel
theorem dX6_undo_16 : decode cX6_undo 16 = .ok (.isub, 1) := by decide +kernel
theorem dX6_undo_17 : decode cX6_undo 17 = .ok (.putfield 26, 3) := by decide +kernel
theorem dX6_undo_20 : decode cX6_undo 20 = .ok (.iconst 0, 1) := by decide +kernel
theorem dX6_undo_21 : decode cX6_undo 21 = .ok (.istore_n 1, 1) := by decide +kernel
theorem dX6_undo_22 : decode cX6_undo 22 = .ok (.iload_n 1, 1) := by decide +kernel
theorem dX6_undo_23 : decode cX6_undo 23 = .ok (.sipush 148, 3) := by decide +kernel
theorem dX6_undo_26 : decode cX6_undo 26 = .ok (.if_icmp .ge 30, 3) := by decide +kernel
theorem dX6_undo_29 : decode cX6_undo 29 = .ok (.aload_n 0, 1) := by decide +kernel
theorem dX6_undo_30 : decode cX6_undo 30 = .ok (.getfield 7, 3) := by decide +kernel
theorem dX6_undo_33 : decode cX6_undo 33 = .ok (.iload_n 1, 1) := by decide +kernel
theorem dX6_undo_34 : decode cX6_undo 34 = .ok (.aload_n 0, 1) := by decide +kernel
theorem dX6_undo_35 : decode cX6_undo 35 = .ok (.getfield 13, 3) := by decide +kernel
theorem dX6_undo_38 : decode cX6_undo 38 = .ok (.sipush 148, 3) := by decide +kernel
theorem dX6_undo_41 : decode cX6_undo 41 = .ok (.aload_n 0, 1) := by decide +kernel
theorem dX6_undo_42 : decode cX6_undo 42 = .ok (.getfield 26, 3) := by decide +kernel
theorem dX6_undo_45 : decode cX6_undo 45 = .ok (.imul, 1) := by decide +kernel
theorem dX6_undo_46 : decode cX6_undo 46 = .ok (.iload_n 1, 1) := by decide +kernel
theorem dX6_undo_47 : decode cX6_undo 47 = .ok (.iadd, 1) := by decide +kernel
theorem dX6_undo_48 : decode cX6_undo 48 = .ok (.iaload, 1) := by decide +kernel
theorem dX6_undo_49 : decode cX6_undo 49 = .ok (.iastore, 1) := by decide +kernel
theorem dX6_undo_50 : decode cX6_undo 50 = .ok (.iinc 1 1, 3) := by decide +kernel
theorem dX6_undo_53 : decode cX6_undo 53 = .ok (.goto (-31), 3) := by decide +kernel
theorem dX6_undo_56 : decode cX6_undo 56 = .ok (.aload_n 0, 1) := by decide +kernel
theorem dX6_undo_57 : decode cX6_undo 57 = .ok (.getfield 26, 3) := by decide +kernel
theorem dX6_undo_60 : decode cX6_undo 60 = .ok (.ireturn, 1) := by decide +kernel
theorem dX6_keep_0 : decode cX6_keep 0 = .ok (.iconst 0, 1) := by decide +kernel
theorem dX6_keep_1 : decode cX6_keep 1 = .ok (.istore_n 1, 1) := by decide +kernel
theorem dX6_keep_2 : decode cX6_keep 2 = .ok (.iload_n 1, 1) := by decide +kernel
theorem dX6_keep_3 : decode cX6_keep 3 = .ok (.sipush 148, 3) := by decide +kernel
theorem dX6_keep_6 : decode cX6_keep 6 = .ok (.if_icmp .ge 21, 3) := by decide +kernel
theorem dX6_keep_9 : decode cX6_keep 9 = .ok (.aload_n 0, 1) := by decide +kernel
theorem dX6_keep_10 : decode cX6_keep 10 = .ok (.getfield 16, 3) := by decide +kernel
theorem dX6_keep_13 : decode cX6_keep 13 = .ok (.iload_n 1, 1) := by decide +kernel
theorem dX6_keep_14 : decode cX6_keep 14 = .ok (.aload_n 0, 1) := by decide +kernel
theorem dX6_keep_15 : decode cX6_keep 15 = .ok (.getfield 7, 3) := by decide +kernel
theorem dX6_keep_18 : decode cX6_keep 18 = .ok (.iload_n 1, 1) := by decide +kernel
theorem dX6_keep_19 : decode cX6_keep 19 = .ok (.iaload, 1) := by decide +kernel
theorem dX6_keep_20 : decode cX6_keep 20 = .ok (.iastore, 1) := by decide +kernel
theorem dX6_keep_21 : decode cX6_keep 21 = .ok (.iinc 1 1, 3) := by decide +kernel
theorem dX6_keep_24 : decode cX6_keep 24 = .ok (.goto (-22), 3) := by decide +kernel
theorem dX6_keep_27 : decode cX6_keep 27 = .ok (.aload_n 0, 1) := by decide +kernel
theorem dX6_keep_28 : decode cX6_keep 28 = .ok (.iconst 1, 1) := by decide +kernel
theorem dX6_keep_29 : decode cX6_keep 29 = .ok (.putfield 194, 3) := by decide +kernel
theorem dX6_keep_32 : decode cX6_keep 32 = .ok (.aload_n 0, 1) := by decide +kernel
theorem dX6_keep_33 : decode cX6_keep 33 = .ok (.getfield 7, 3) := by decide +kernel
theorem dX6_keep_36 : decode cX6_keep 36 = .ok (.bipush 13, 2) := by decide +kernel
theorem dX6_keep_38 : decode cX6_keep 38 = .ok (.iaload, 1) := by decide +kernel
theorem dX6_keep_39 : decode cX6_keep 39 = .ok (.ireturn, 1) := by decide +kernel
set_option maxRecDepth 20000 in
theorem ggX6_restore_X6_remembers : GoodIn wsX6_restore wsX6_remembers := goodIn_r _ [8, 9, 10, 2, 11, 12, 13, 14, 15, 16, 17] (by decide +kernel) (by decide +kernel)
set_option maxRecDepth 20000 in
theorem gX6_restore_X6_remembers : GoodIn wsX6_restore (wsV RX6 30 RX6 yX6_remembers wsX6_remembers) := goodIn_app (goodIn_of _ (by decide +kernel)) ggX6_restore_X6_remembers
theorem dX6_restore_0 : decode cX6_restore 0 = .ok (.aload_n 0, 1) := by decide +kernel
theorem dX6_restore_1 : decode cX6_restore 1 = .ok (.getfield 194, 3) := by decide +kernel
theorem dX6_restore_4 : decode cX6_restore 4 = .ok (.ifCond .ne 6, 3) := by decide +kernel
theorem dX6_restore_7 : decode cX6_restore 7 = .ok (.bipush (-5), 2) := by decide +kernel
theorem dX6_restore_9 : decode cX6_restore 9 = .ok (.ireturn, 1) := by decide +kernel
theorem dX6_restore_10 : decode cX6_restore 10 = .ok (.aload_n 0, 1) := by decide +kernel
theorem dX6_restore_11 : decode cX6_restore 11 = .ok (.invokevirtual 30, 3) := by decide +kernel
theorem dX6_restore_14 : decode cX6_restore 14 = .ok (.iconst 0, 1) := by decide +kernel
theorem dX6_restore_15 : decode cX6_restore 15 = .ok (.istore_n 1, 1) := by decide +kernel
theorem dX6_restore_16 : decode cX6_restore 16 = .ok (.iload_n 1, 1) := by decide +kernel
theorem dX6_restore_17 : decode cX6_restore 17 = .ok (.sipush 148, 3) := by decide +kernel
theorem dX6_restore_20 : decode cX6_restore 20 = .ok (.if_icmp .ge 21, 3) := by decide +kernel
theorem dX6_restore_23 : decode cX6_restore 23 = .ok (.aload_n 0, 1) := by decide +kernel
theorem dX6_restore_24 : decode cX6_restore 24 = .ok (.getfield 7, 3) := by decide +kernel
theorem dX6_restore_27 : decode cX6_restore 27 = .ok (.iload_n 1, 1) := by decide +kernel
theorem dX6_restore_28 : decode cX6_restore 28 = .ok (.aload_n 0, 1) := by decide +kernel
theorem dX6_restore_29 : decode cX6_restore 29 = .ok (.getfield 16, 3) := by decide +kernel
theorem dX6_restore_32 : decode cX6_restore 32 = .ok (.iload_n 1, 1) := by decide +kernel
theorem dX6_restore_33 : decode cX6_restore 33 = .ok (.iaload, 1) := by decide +kernel
theorem dX6_restore_34 : decode cX6_restore 34 = .ok (.iastore, 1) := by decide +kernel
theorem dX6_restore_35 : decode cX6_restore 35 = .ok (.iinc 1 1, 3) := by decide +kernel
theorem dX6_restore_38 : decode cX6_restore 38 = .ok (.goto (-22), 3) := by decide +kernel
theorem dX6_restore_41 : decode cX6_restore 41 = .ok (.aload_n 0, 1) := by decide +kernel
theorem dX6_restore_42 : decode cX6_restore 42 = .ok (.getfield 7, 3) := by decide +kernel
theorem dX6_restore_45 : decode cX6_restore 45 = .ok (.bipush 13, 2) := by decide +kernel
theorem dX6_restore_47 : decode cX6_restore 47 = .ok (.iaload, 1) := by decide +kernel
theorem dX6_restore_48 : decode cX6_restore 48 = .ok (.ireturn, 1) := by decide +kernel
set_option maxRecDepth 20000 in
theorem ggX6_yardOf_X6_isYard : GoodIn wsX6_yardOf wsX6_isYard := goodIn_r _ [4, 5, 6, 3, 7] (by decide +kernel) (by decide +kernel)
set_option maxRecDepth 20000 in
theorem gX6_yardOf_X6_isYard : GoodIn wsX6_yardOf (va_wsS RX6 133 yX6_isYard wsX6_isYard) := goodIn_app (goodIn_of _ (by decide +kernel)) ggX6_yardOf_X6_isYard
set_option maxRecDepth 20000 in
theorem ggX6_yardOf_X6_millAt : GoodIn wsX6_yardOf wsX6_millAt := goodIn_r _ [11, 12, 13, 14, 3, 15, 23, 24, 25, 26, 27, 28, 29] (by decide +kernel) (by decide +kernel)
set_option maxRecDepth 20000 in
theorem gX6_yardOf_X6_millAt : GoodIn wsX6_yardOf (wsV RX6 127 RX6 yX6_millAt wsX6_millAt) := goodIn_app (goodIn_of _ (by decide +kernel)) ggX6_yardOf_X6_millAt
set_option maxRecDepth 20000 in
theorem ggX6_yardOf_X6_houseAt : GoodIn wsX6_yardOf wsX6_houseAt := goodIn_r _ [19, 12, 20, 21, 3, 22, 23, 24, 25, 26, 27, 28, 29] (by decide +kernel) (by decide +kernel)
set_option maxRecDepth 20000 in
theorem gX6_yardOf_X6_houseAt : GoodIn wsX6_yardOf (wsV RX6 130 RX6 yX6_houseAt wsX6_houseAt) := goodIn_app (goodIn_of _ (by decide +kernel)) ggX6_yardOf_X6_houseAt
theorem dX6_yardOf_0 : decode cX6_yardOf 0 = .ok (.iload_n 1, 1) := by decide +kernel
theorem dX6_yardOf_1 : decode cX6_yardOf 1 = .ok (.invokestatic 133, 3) := by decide +kernel
theorem dX6_yardOf_4 : decode cX6_yardOf 4 = .ok (.ifCond .ne 5, 3) := by decide +kernel
theorem dX6_yardOf_7 : decode cX6_yardOf 7 = .ok (.iconst (-1), 1) := by decide +kernel
theorem dX6_yardOf_8 : decode cX6_yardOf 8 = .ok (.ireturn, 1) := by decide +kernel
theorem dX6_yardOf_9 : decode cX6_yardOf 9 = .ok (.iload_n 2, 1) := by decide +kernel
theorem dX6_yardOf_10 : decode cX6_yardOf 10 = .ok (.ifCond .ne 12, 3) := by decide +kernel
theorem dX6_yardOf_13 : decode cX6_yardOf 13 = .ok (.aload_n 0, 1) := by decide +kernel
theorem dX6_yardOf_14 : decode cX6_yardOf 14 = .ok (.iconst 0, 1) := by decide +kernel
theorem dX6_yardOf_15 : decode cX6_yardOf 15 = .ok (.iload_n 1, 1) := by decide +kernel
theorem dX6_yardOf_16 : decode cX6_yardOf 16 = .ok (.invokevirtual 127, 3) := by decide +kernel
theorem dX6_yardOf_19 : decode cX6_yardOf 19 = .ok (.goto 19, 3) := by decide +kernel
theorem dX6_yardOf_22 : decode cX6_yardOf 22 = .ok (.iload_n 2, 1) := by decide +kernel
theorem dX6_yardOf_23 : decode cX6_yardOf 23 = .ok (.iconst 1, 1) := by decide +kernel
theorem dX6_yardOf_24 : decode cX6_yardOf 24 = .ok (.if_icmp .ne 12, 3) := by decide +kernel
theorem dX6_yardOf_27 : decode cX6_yardOf 27 = .ok (.aload_n 0, 1) := by decide +kernel
theorem dX6_yardOf_28 : decode cX6_yardOf 28 = .ok (.iconst 0, 1) := by decide +kernel
theorem dX6_yardOf_29 : decode cX6_yardOf 29 = .ok (.iload_n 1, 1) := by decide +kernel
theorem dX6_yardOf_30 : decode cX6_yardOf 30 = .ok (.invokevirtual 130, 3) := by decide +kernel
theorem dX6_yardOf_33 : decode cX6_yardOf 33 = .ok (.goto 5, 3) := by decide +kernel
theorem dX6_yardOf_36 : decode cX6_yardOf 36 = .ok (.bipush (-2), 2) := by decide +kernel
theorem dX6_yardOf_38 : decode cX6_yardOf 38 = .ok (.ireturn, 1) := by decide +kernel
set_option maxRecDepth 20000 in
theorem ggX6_turning_X6_turns : GoodIn wsX6_turning wsX6_turns := goodIn_r _ [5, 6, 7, 8, 9, 4, 10, 11, 12, 13, 14, 15, 16, 17, 18, 19, 20] (by decide +kernel) (by decide +kernel)
set_option maxRecDepth 20000 in
theorem gX6_turning_X6_turns : GoodIn wsX6_turning (wsV RX6 198 RX6 yX6_turns wsX6_turns) := goodIn_app (goodIn_of _ (by decide +kernel)) ggX6_turning_X6_turns
theorem dX6_turning_0 : decode cX6_turning 0 = .ok (.iconst 0, 1) := by decide +kernel
theorem dX6_turning_1 : decode cX6_turning 1 = .ok (.istore_n 2, 1) := by decide +kernel
theorem dX6_turning_2 : decode cX6_turning 2 = .ok (.iconst 0, 1) := by decide +kernel
theorem dX6_turning_3 : decode cX6_turning 3 = .ok (.istore_n 3, 1) := by decide +kernel
theorem dX6_turning_4 : decode cX6_turning 4 = .ok (.iload_n 3, 1) := by decide +kernel
theorem dX6_turning_5 : decode cX6_turning 5 = .ok (.bipush 24, 2) := by decide +kernel
theorem dX6_turning_7 : decode cX6_turning 7 = .ok (.if_icmp .ge 29, 3) := by decide +kernel
theorem dX6_turning_10 : decode cX6_turning 10 = .ok (.iload_n 2, 1) := by decide +kernel
theorem dX6_turning_11 : decode cX6_turning 11 = .ok (.aload_n 0, 1) := by decide +kernel
theorem dX6_turning_12 : decode cX6_turning 12 = .ok (.iconst 0, 1) := by decide +kernel
theorem dX6_turning_13 : decode cX6_turning 13 = .ok (.iload_n 1, 1) := by decide +kernel
theorem dX6_turning_14 : decode cX6_turning 14 = .ok (.iload_n 3, 1) := by decide +kernel
theorem dX6_turning_15 : decode cX6_turning 15 = .ok (.invokevirtual 198, 3) := by decide +kernel
theorem dX6_turning_18 : decode cX6_turning 18 = .ok (.ifCond .eq 9, 3) := by decide +kernel
theorem dX6_turning_21 : decode cX6_turning 21 = .ok (.iconst 1, 1) := by decide +kernel
theorem dX6_turning_22 : decode cX6_turning 22 = .ok (.iload_n 3, 1) := by decide +kernel
theorem dX6_turning_23 : decode cX6_turning 23 = .ok (.ishl, 1) := by decide +kernel
theorem dX6_turning_24 : decode cX6_turning 24 = .ok (.goto 4, 3) := by decide +kernel
theorem dX6_turning_27 : decode cX6_turning 27 = .ok (.iconst 0, 1) := by decide +kernel
theorem dX6_turning_28 : decode cX6_turning 28 = .ok (.ior, 1) := by decide +kernel
theorem dX6_turning_29 : decode cX6_turning 29 = .ok (.istore_n 2, 1) := by decide +kernel
theorem dX6_turning_30 : decode cX6_turning 30 = .ok (.iinc 3 1, 3) := by decide +kernel
theorem dX6_turning_33 : decode cX6_turning 33 = .ok (.goto (-29), 3) := by decide +kernel
theorem dX6_turning_36 : decode cX6_turning 36 = .ok (.iload_n 2, 1) := by decide +kernel
theorem dX6_turning_37 : decode cX6_turning 37 = .ok (.ireturn, 1) := by decide +kernel
theorem dX6_grain_0 : decode cX6_grain 0 = .ok (.iconst 0, 1) := by decide +kernel
theorem dX6_grain_1 : decode cX6_grain 1 = .ok (.istore_n 2, 1) := by decide +kernel
theorem dX6_grain_2 : decode cX6_grain 2 = .ok (.iconst 0, 1) := by decide +kernel
theorem dX6_grain_3 : decode cX6_grain 3 = .ok (.istore_n 3, 1) := by decide +kernel
theorem dX6_grain_4 : decode cX6_grain 4 = .ok (.iload_n 3, 1) := by decide +kernel
theorem dX6_grain_5 : decode cX6_grain 5 = .ok (.bipush 24, 2) := by decide +kernel
theorem dX6_grain_7 : decode cX6_grain 7 = .ok (.if_icmp .ge 47, 3) := by decide +kernel
theorem dX6_grain_10 : decode cX6_grain 10 = .ok (.iload_n 2, 1) := by decide +kernel
theorem dX6_grain_11 : decode cX6_grain 11 = .ok (.iload_n 1, 1) := by decide +kernel
theorem dX6_grain_12 : decode cX6_grain 12 = .ok (.iload_n 3, 1) := by decide +kernel
theorem dX6_grain_13 : decode cX6_grain 13 = .ok (.ishr, 1) := by decide +kernel
theorem dX6_grain_14 : decode cX6_grain 14 = .ok (.iconst 1, 1) := by decide +kernel
theorem dX6_grain_15 : decode cX6_grain 15 = .ok (.iand, 1) := by decide +kernel
theorem dX6_grain_16 : decode cX6_grain 16 = .ok (.iconst 1, 1) := by decide +kernel
theorem dX6_grain_17 : decode cX6_grain 17 = .ok (.if_icmp .ne 28, 3) := by decide +kernel
theorem dX6_grain_20 : decode cX6_grain 20 = .ok (.aload_n 0, 1) := by decide +kernel
theorem dX6_grain_21 : decode cX6_grain 21 = .ok (.getfield 7, 3) := by decide +kernel
theorem dX6_grain_24 : decode cX6_grain 24 = .ok (.bipush 34, 2) := by decide +kernel
theorem dX6_grain_26 : decode cX6_grain 26 = .ok (.iload_n 3, 1) := by decide +kernel
theorem dX6_grain_27 : decode cX6_grain 27 = .ok (.iadd, 1) := by decide +kernel
theorem dX6_grain_28 : decode cX6_grain 28 = .ok (.iaload, 1) := by decide +kernel
theorem dX6_grain_29 : decode cX6_grain 29 = .ok (.iconst 2, 1) := by decide +kernel
theorem dX6_grain_30 : decode cX6_grain 30 = .ok (.if_icmp .lt 15, 3) := by decide +kernel
theorem dX6_grain_33 : decode cX6_grain 33 = .ok (.aload_n 0, 1) := by decide +kernel
theorem dX6_grain_34 : decode cX6_grain 34 = .ok (.getfield 7, 3) := by decide +kernel
theorem dX6_grain_37 : decode cX6_grain 37 = .ok (.bipush 34, 2) := by decide +kernel
theorem dX6_grain_39 : decode cX6_grain 39 = .ok (.iload_n 3, 1) := by decide +kernel
theorem dX6_grain_40 : decode cX6_grain 40 = .ok (.iadd, 1) := by decide +kernel
theorem dX6_grain_41 : decode cX6_grain 41 = .ok (.iaload, 1) := by decide +kernel
theorem dX6_grain_42 : decode cX6_grain 42 = .ok (.goto 4, 3) := by decide +kernel
theorem dX6_grain_45 : decode cX6_grain 45 = .ok (.iconst 0, 1) := by decide +kernel
theorem dX6_grain_46 : decode cX6_grain 46 = .ok (.iadd, 1) := by decide +kernel
theorem dX6_grain_47 : decode cX6_grain 47 = .ok (.istore_n 2, 1) := by decide +kernel
theorem dX6_grain_48 : decode cX6_grain 48 = .ok (.iinc 3 1, 3) := by decide +kernel
theorem dX6_grain_51 : decode cX6_grain 51 = .ok (.goto (-47), 3) := by decide +kernel
theorem dX6_grain_54 : decode cX6_grain 54 = .ok (.iload_n 2, 1) := by decide +kernel
theorem dX6_grain_55 : decode cX6_grain 55 = .ok (.ireturn, 1) := by decide +kernel
set_option maxRecDepth 20000 in
theorem ggX6_allPoints_X6_points : GoodIn wsX6_allPoints wsX6_points := goodIn_r _ [5, 6, 7, 8, 4, 9, 10, 11, 12, 13, 14, 15, 16] (by decide +kernel) (by decide +kernel)
set_option maxRecDepth 20000 in
theorem gX6_allPoints_X6_points : GoodIn wsX6_allPoints (wsV RX6 99 RX6 yX6_points wsX6_points) := goodIn_app (goodIn_of _ (by decide +kernel)) ggX6_allPoints_X6_points
theorem dX6_allPoints_0 : decode cX6_allPoints 0 = .ok (.iconst 0, 1) := by decide +kernel
theorem dX6_allPoints_1 : decode cX6_allPoints 1 = .ok (.istore_n 2, 1) := by decide +kernel
theorem dX6_allPoints_2 : decode cX6_allPoints 2 = .ok (.iconst 0, 1) := by decide +kernel
theorem dX6_allPoints_3 : decode cX6_allPoints 3 = .ok (.istore_n 3, 1) := by decide +kernel
theorem dX6_allPoints_4 : decode cX6_allPoints 4 = .ok (.iload_n 3, 1) := by decide +kernel
theorem dX6_allPoints_5 : decode cX6_allPoints 5 = .ok (.bipush 24, 2) := by decide +kernel
theorem dX6_allPoints_7 : decode cX6_allPoints 7 = .ok (.if_icmp .ge 19, 3) := by decide +kernel
theorem dX6_allPoints_10 : decode cX6_allPoints 10 = .ok (.iload_n 2, 1) := by decide +kernel
theorem dX6_allPoints_11 : decode cX6_allPoints 11 = .ok (.aload_n 0, 1) := by decide +kernel
theorem dX6_allPoints_12 : decode cX6_allPoints 12 = .ok (.iconst 0, 1) := by decide +kernel
theorem dX6_allPoints_13 : decode cX6_allPoints 13 = .ok (.iload_n 1, 1) := by decide +kernel
theorem dX6_allPoints_14 : decode cX6_allPoints 14 = .ok (.iload_n 3, 1) := by decide +kernel
theorem dX6_allPoints_15 : decode cX6_allPoints 15 = .ok (.invokevirtual 99, 3) := by decide +kernel
theorem dX6_allPoints_18 : decode cX6_allPoints 18 = .ok (.iadd, 1) := by decide +kernel
theorem dX6_allPoints_19 : decode cX6_allPoints 19 = .ok (.istore_n 2, 1) := by decide +kernel
theorem dX6_allPoints_20 : decode cX6_allPoints 20 = .ok (.iinc 3 1, 3) := by decide +kernel
theorem dX6_allPoints_23 : decode cX6_allPoints 23 = .ok (.goto (-19), 3) := by decide +kernel
theorem dX6_allPoints_26 : decode cX6_allPoints 26 = .ok (.iload_n 2, 1) := by decide +kernel
theorem dX6_allPoints_27 : decode cX6_allPoints 27 = .ok (.ireturn, 1) := by decide +kernel
set_option maxRecDepth 20000 in
theorem ggX6_millOf_X6_isMill : GoodIn wsX6_millOf wsX6_isMill := goodIn_r _ [6, 1, 7, 8, 5, 9, 40, 41, 42, 43, 44, 45, 46] (by decide +kernel) (by decide +kernel)
set_option maxRecDepth 20000 in
theorem gX6_millOf_X6_isMill : GoodIn wsX6_millOf (wsV RX6 89 RX6 yX6_isMill wsX6_isMill) := goodIn_app (goodIn_of _ (by decide +kernel)) ggX6_millOf_X6_isMill
set_option maxRecDepth 20000 in
theorem ggX6_millOf_X6_ofMill : GoodIn wsX6_millOf wsX6_ofMill := goodIn_r _ [12] (by decide +kernel) (by decide +kernel)
set_option maxRecDepth 20000 in
theorem gX6_millOf_X6_ofMill : GoodIn wsX6_millOf (va_wsS RX6 36 yX6_ofMill wsX6_ofMill) := goodIn_app (goodIn_of _ (by decide +kernel)) ggX6_millOf_X6_ofMill
set_option maxRecDepth 20000 in
theorem ggX6_millOf_X6_turning : GoodIn wsX6_millOf wsX6_turning := goodIn_r _ [16, 17, 18, 19, 5, 20, 1, 21, 22, 23, 24, 10, 11, 12, 40, 41, 42, 43, 44, 45, 46] (by decide +kernel) (by decide +kernel)
set_option maxRecDepth 20000 in
theorem gX6_millOf_X6_turning : GoodIn wsX6_millOf (wsV RX6 201 RX6 yX6_turning wsX6_turning) := goodIn_app (goodIn_of _ (by decide +kernel)) ggX6_millOf_X6_turning
set_option maxRecDepth 20000 in
theorem ggX6_millOf_X6_grain : GoodIn wsX6_millOf wsX6_grain := goodIn_r _ [28, 1, 40, 41, 42, 43, 44, 45, 46] (by decide +kernel) (by decide +kernel)
set_option maxRecDepth 20000 in
theorem gX6_millOf_X6_grain : GoodIn wsX6_millOf (wsV RX6 204 RX6 yX6_grain wsX6_grain) := goodIn_app (goodIn_of _ (by decide +kernel)) ggX6_millOf_X6_grain
set_option maxRecDepth 20000 in
theorem ggX6_millOf_X6_allPoints : GoodIn wsX6_millOf wsX6_allPoints := goodIn_r _ [32, 33, 34, 35, 5, 36, 1, 37, 38, 39, 40, 41, 42, 43, 44, 45, 46] (by decide +kernel) (by decide +kernel)
set_option maxRecDepth 20000 in
theorem gX6_millOf_X6_allPoints : GoodIn wsX6_millOf (wsV RX6 207 RX6 yX6_allPoints wsX6_allPoints) := goodIn_app (goodIn_of _ (by decide +kernel)) ggX6_millOf_X6_allPoints
theorem dX6_millOf_0 : decode cX6_millOf 0 = .ok (.aload_n 0, 1) := by decide +kernel
theorem dX6_millOf_1 : decode cX6_millOf 1 = .ok (.iconst 0, 1) := by decide +kernel
theorem dX6_millOf_2 : decode cX6_millOf 2 = .ok (.iload_n 1, 1) := by decide +kernel
theorem dX6_millOf_3 : decode cX6_millOf 3 = .ok (.invokevirtual 89, 3) := by decide +kernel
theorem dX6_millOf_6 : decode cX6_millOf 6 = .ok (.ifCond .ne 5, 3) := by decide +kernel
theorem dX6_millOf_9 : decode cX6_millOf 9 = .ok (.iconst (-1), 1) := by decide +kernel
theorem dX6_millOf_10 : decode cX6_millOf 10 = .ok (.ireturn, 1) := by decide +kernel
theorem dX6_millOf_11 : decode cX6_millOf 11 = .ok (.iload_n 2, 1) := by decide +kernel
theorem dX6_millOf_12 : decode cX6_millOf 12 = .ok (.tableswitch 74 0 5 #[40, 40, 40, 52, 58, 68], 40) := by decide +kernel
theorem dX6_millOf_52 : decode cX6_millOf 52 = .ok (.aload_n 0, 1) := by decide +kernel
theorem dX6_millOf_53 : decode cX6_millOf 53 = .ok (.getfield 7, 3) := by decide +kernel
theorem dX6_millOf_56 : decode cX6_millOf 56 = .ok (.iconst 0, 1) := by decide +kernel
theorem dX6_millOf_57 : decode cX6_millOf 57 = .ok (.iload_n 1, 1) := by decide +kernel
theorem dX6_millOf_58 : decode cX6_millOf 58 = .ok (.iload_n 2, 1) := by decide +kernel
theorem dX6_millOf_59 : decode cX6_millOf 59 = .ok (.invokestatic 36, 3) := by decide +kernel
theorem dX6_millOf_62 : decode cX6_millOf 62 = .ok (.iaload, 1) := by decide +kernel
theorem dX6_millOf_63 : decode cX6_millOf 63 = .ok (.ireturn, 1) := by decide +kernel
theorem dX6_millOf_64 : decode cX6_millOf 64 = .ok (.aload_n 0, 1) := by decide +kernel
theorem dX6_millOf_65 : decode cX6_millOf 65 = .ok (.iload_n 1, 1) := by decide +kernel
theorem dX6_millOf_66 : decode cX6_millOf 66 = .ok (.invokevirtual 201, 3) := by decide +kernel
theorem dX6_millOf_69 : decode cX6_millOf 69 = .ok (.ireturn, 1) := by decide +kernel
theorem dX6_millOf_70 : decode cX6_millOf 70 = .ok (.aload_n 0, 1) := by decide +kernel
theorem dX6_millOf_71 : decode cX6_millOf 71 = .ok (.aload_n 0, 1) := by decide +kernel
theorem dX6_millOf_72 : decode cX6_millOf 72 = .ok (.iload_n 1, 1) := by decide +kernel
theorem dX6_millOf_73 : decode cX6_millOf 73 = .ok (.invokevirtual 201, 3) := by decide +kernel
theorem dX6_millOf_76 : decode cX6_millOf 76 = .ok (.invokevirtual 204, 3) := by decide +kernel
theorem dX6_millOf_79 : decode cX6_millOf 79 = .ok (.ireturn, 1) := by decide +kernel
theorem dX6_millOf_80 : decode cX6_millOf 80 = .ok (.aload_n 0, 1) := by decide +kernel
theorem dX6_millOf_81 : decode cX6_millOf 81 = .ok (.iload_n 1, 1) := by decide +kernel
theorem dX6_millOf_82 : decode cX6_millOf 82 = .ok (.invokevirtual 207, 3) := by decide +kernel
theorem dX6_millOf_85 : decode cX6_millOf 85 = .ok (.ireturn, 1) := by decide +kernel
theorem dX6_millOf_86 : decode cX6_millOf 86 = .ok (.bipush (-2), 2) := by decide +kernel
theorem dX6_millOf_88 : decode cX6_millOf 88 = .ok (.ireturn, 1) := by decide +kernel
set_option maxRecDepth 20000 in
theorem ggX6_standing_X6_ones : GoodIn wsX6_standing wsX6_ones := goodIn_r _ [5] (by decide +kernel) (by decide +kernel)
set_option maxRecDepth 20000 in
theorem gX6_standing_X6_ones : GoodIn wsX6_standing (va_wsS RX6 114 yX6_ones wsX6_ones) := goodIn_app (goodIn_of _ (by decide +kernel)) ggX6_standing_X6_ones
theorem dX6_standing_0 : decode cX6_standing 0 = .ok (.iconst 0, 1) := by decide +kernel
theorem dX6_standing_1 : decode cX6_standing 1 = .ok (.istore_n 2, 1) := by decide +kernel
theorem dX6_standing_2 : decode cX6_standing 2 = .ok (.iconst 0, 1) := by decide +kernel
theorem dX6_standing_3 : decode cX6_standing 3 = .ok (.istore_n 3, 1) := by decide +kernel
theorem dX6_standing_4 : decode cX6_standing 4 = .ok (.iload_n 3, 1) := by decide +kernel
theorem dX6_standing_5 : decode cX6_standing 5 = .ok (.bipush 8, 2) := by decide +kernel
theorem dX6_standing_7 : decode cX6_standing 7 = .ok (.if_icmp .ge 29, 3) := by decide +kernel
theorem dX6_standing_10 : decode cX6_standing 10 = .ok (.iload_n 2, 1) := by decide +kernel
theorem dX6_standing_11 : decode cX6_standing 11 = .ok (.aload_n 0, 1) := by decide +kernel
theorem dX6_standing_12 : decode cX6_standing 12 = .ok (.getfield 7, 3) := by decide +kernel
theorem dX6_standing_15 : decode cX6_standing 15 = .ok (.bipush 68, 2) := by decide +kernel
theorem dX6_standing_17 : decode cX6_standing 17 = .ok (.bipush 8, 2) := by decide +kernel
theorem dX6_standing_19 : decode cX6_standing 19 = .ok (.iload_n 1, 1) := by decide +kernel
theorem dX6_standing_20 : decode cX6_standing 20 = .ok (.imul, 1) := by decide +kernel
theorem dX6_standing_21 : decode cX6_standing 21 = .ok (.iadd, 1) := by decide +kernel
theorem dX6_standing_22 : decode cX6_standing 22 = .ok (.iload_n 3, 1) := by decide +kernel
theorem dX6_standing_23 : decode cX6_standing 23 = .ok (.iadd, 1) := by decide +kernel
theorem dX6_standing_24 : decode cX6_standing 24 = .ok (.iaload, 1) := by decide +kernel
theorem dX6_standing_25 : decode cX6_standing 25 = .ok (.invokestatic 114, 3) := by decide +kernel
theorem dX6_standing_28 : decode cX6_standing 28 = .ok (.iadd, 1) := by decide +kernel
theorem dX6_standing_29 : decode cX6_standing 29 = .ok (.istore_n 2, 1) := by decide +kernel
theorem dX6_standing_30 : decode cX6_standing 30 = .ok (.iinc 3 1, 3) := by decide +kernel
theorem dX6_standing_33 : decode cX6_standing 33 = .ok (.goto (-29), 3) := by decide +kernel
theorem dX6_standing_36 : decode cX6_standing 36 = .ok (.iload_n 2, 1) := by decide +kernel
theorem dX6_standing_37 : decode cX6_standing 37 = .ok (.ireturn, 1) := by decide +kernel
set_option maxRecDepth 20000 in
theorem ggX6_troubled_X6_turns : GoodIn wsX6_troubled wsX6_turns := goodIn_r _ [6, 1, 7, 8, 9, 5, 10, 11, 12, 13, 52, 53, 54, 55, 56, 57, 58] (by decide +kernel) (by decide +kernel)
set_option maxRecDepth 20000 in
theorem gX6_troubled_X6_turns : GoodIn wsX6_troubled (wsV RX6 198 RX6 yX6_turns wsX6_turns) := goodIn_app (goodIn_of _ (by decide +kernel)) ggX6_troubled_X6_turns
set_option maxRecDepth 20000 in
theorem ggX6_troubled_X6_wouldTrouble : GoodIn wsX6_troubled wsX6_wouldTrouble := goodIn_r _ [17, 1, 18, 19, 5, 20, 21, 22, 23, 24, 11, 12, 13, 25, 26, 27, 28, 29, 30, 31, 32, 33, 34, 35, 36, 37, 38, 39, 40, 41, 42, 43, 44, 45, 46, 47, 48, 49, 50, 51, 52, 53, 54, 55, 56, 57, 58] (by decide +kernel) (by decide +kernel)
set_option maxRecDepth 20000 in
theorem gX6_troubled_X6_wouldTrouble : GoodIn wsX6_troubled (wsV RX6 75 RX6 yX6_wouldTrouble wsX6_wouldTrouble) := goodIn_app (goodIn_of _ (by decide +kernel)) ggX6_troubled_X6_wouldTrouble
theorem dX6_troubled_0 : decode cX6_troubled 0 = .ok (.iconst 0, 1) := by decide +kernel
theorem dX6_troubled_1 : decode cX6_troubled 1 = .ok (.istore_n 3, 1) := by decide +kernel
theorem dX6_troubled_2 : decode cX6_troubled 2 = .ok (.iconst 0, 1) := by decide +kernel
theorem dX6_troubled_3 : decode cX6_troubled 3 = .ok (.istore 4, 2) := by decide +kernel
theorem dX6_troubled_5 : decode cX6_troubled 5 = .ok (.iload 4, 2) := by decide +kernel
theorem dX6_troubled_7 : decode cX6_troubled 7 = .ok (.aload_n 0, 1) := by decide +kernel
theorem dX6_troubled_8 : decode cX6_troubled 8 = .ok (.getfield 7, 3) := by decide +kernel
theorem dX6_troubled_11 : decode cX6_troubled 11 = .ok (.iconst 0, 1) := by decide +kernel
theorem dX6_troubled_12 : decode cX6_troubled 12 = .ok (.iaload, 1) := by decide +kernel
theorem dX6_troubled_13 : decode cX6_troubled 13 = .ok (.bipush 24, 2) := by decide +kernel
theorem dX6_troubled_15 : decode cX6_troubled 15 = .ok (.imul, 1) := by decide +kernel
theorem dX6_troubled_16 : decode cX6_troubled 16 = .ok (.if_icmp .ge 71, 3) := by decide +kernel
theorem dX6_troubled_19 : decode cX6_troubled 19 = .ok (.iload 4, 2) := by decide +kernel
theorem dX6_troubled_21 : decode cX6_troubled 21 = .ok (.bipush 24, 2) := by decide +kernel
theorem dX6_troubled_23 : decode cX6_troubled 23 = .ok (.irem, 1) := by decide +kernel
theorem dX6_troubled_24 : decode cX6_troubled 24 = .ok (.istore 5, 2) := by decide +kernel
theorem dX6_troubled_26 : decode cX6_troubled 26 = .ok (.aload_n 0, 1) := by decide +kernel
theorem dX6_troubled_27 : decode cX6_troubled 27 = .ok (.iconst 0, 1) := by decide +kernel
theorem dX6_troubled_28 : decode cX6_troubled 28 = .ok (.iload 4, 2) := by decide +kernel
theorem dX6_troubled_30 : decode cX6_troubled 30 = .ok (.bipush 24, 2) := by decide +kernel
theorem dX6_troubled_32 : decode cX6_troubled 32 = .ok (.idiv, 1) := by decide +kernel
theorem dX6_troubled_33 : decode cX6_troubled 33 = .ok (.iload 5, 2) := by decide +kernel
theorem dX6_troubled_35 : decode cX6_troubled 35 = .ok (.invokevirtual 198, 3) := by decide +kernel
theorem dX6_troubled_38 : decode cX6_troubled 38 = .ok (.ifCond .eq 24, 3) := by decide +kernel
theorem dX6_troubled_41 : decode cX6_troubled 41 = .ok (.aload_n 0, 1) := by decide +kernel
theorem dX6_troubled_42 : decode cX6_troubled 42 = .ok (.iconst 0, 1) := by decide +kernel
theorem dX6_troubled_43 : decode cX6_troubled 43 = .ok (.iload_n 1, 1) := by decide +kernel
theorem dX6_troubled_44 : decode cX6_troubled 44 = .ok (.iload 4, 2) := by decide +kernel
theorem dX6_troubled_46 : decode cX6_troubled 46 = .ok (.bipush 24, 2) := by decide +kernel
theorem dX6_troubled_48 : decode cX6_troubled 48 = .ok (.idiv, 1) := by decide +kernel
theorem dX6_troubled_49 : decode cX6_troubled 49 = .ok (.iload_n 2, 1) := by decide +kernel
theorem dX6_troubled_50 : decode cX6_troubled 50 = .ok (.iload 5, 2) := by decide +kernel
theorem dX6_troubled_52 : decode cX6_troubled 52 = .ok (.invokevirtual 75, 3) := by decide +kernel
theorem dX6_troubled_55 : decode cX6_troubled 55 = .ok (.ifCond .eq 7, 3) := by decide +kernel
theorem dX6_troubled_58 : decode cX6_troubled 58 = .ok (.iconst 1, 1) := by decide +kernel
theorem dX6_troubled_59 : decode cX6_troubled 59 = .ok (.goto 4, 3) := by decide +kernel
theorem dX6_troubled_62 : decode cX6_troubled 62 = .ok (.iconst 0, 1) := by decide +kernel
theorem dX6_troubled_63 : decode cX6_troubled 63 = .ok (.istore 6, 2) := by decide +kernel
theorem dX6_troubled_65 : decode cX6_troubled 65 = .ok (.iload_n 3, 1) := by decide +kernel
theorem dX6_troubled_66 : decode cX6_troubled 66 = .ok (.iload 6, 2) := by decide +kernel
theorem dX6_troubled_68 : decode cX6_troubled 68 = .ok (.ifCond .eq 10, 3) := by decide +kernel
theorem dX6_troubled_71 : decode cX6_troubled 71 = .ok (.iconst 1, 1) := by decide +kernel
theorem dX6_troubled_72 : decode cX6_troubled 72 = .ok (.iload 5, 2) := by decide +kernel
theorem dX6_troubled_74 : decode cX6_troubled 74 = .ok (.ishl, 1) := by decide +kernel
theorem dX6_troubled_75 : decode cX6_troubled 75 = .ok (.goto 4, 3) := by decide +kernel
theorem dX6_troubled_78 : decode cX6_troubled 78 = .ok (.iconst 0, 1) := by decide +kernel
theorem dX6_troubled_79 : decode cX6_troubled 79 = .ok (.ior, 1) := by decide +kernel
theorem dX6_troubled_80 : decode cX6_troubled 80 = .ok (.istore_n 3, 1) := by decide +kernel
theorem dX6_troubled_81 : decode cX6_troubled 81 = .ok (.iinc 4 1, 3) := by decide +kernel
theorem dX6_troubled_84 : decode cX6_troubled 84 = .ok (.goto (-79), 3) := by decide +kernel
theorem dX6_troubled_87 : decode cX6_troubled 87 = .ok (.iload_n 3, 1) := by decide +kernel
theorem dX6_troubled_88 : decode cX6_troubled 88 = .ok (.ireturn, 1) := by decide +kernel
set_option maxRecDepth 20000 in
theorem ggX6_houseOf_X6_isHouse : GoodIn wsX6_houseOf wsX6_isHouse := goodIn_r _ [6, 1, 7, 8, 5, 9, 67, 68, 69, 70, 71, 72, 73] (by decide +kernel) (by decide +kernel)
set_option maxRecDepth 20000 in
theorem gX6_houseOf_X6_isHouse : GoodIn wsX6_houseOf (wsV RX6 85 RX6 yX6_isHouse wsX6_isHouse) := goodIn_app (goodIn_of _ (by decide +kernel)) ggX6_houseOf_X6_isHouse
set_option maxRecDepth 20000 in
theorem ggX6_houseOf_X6_ofHouse : GoodIn wsX6_houseOf wsX6_ofHouse := goodIn_r _ [12] (by decide +kernel) (by decide +kernel)
set_option maxRecDepth 20000 in
theorem gX6_houseOf_X6_ofHouse : GoodIn wsX6_houseOf (va_wsS RX6 61 yX6_ofHouse wsX6_ofHouse) := goodIn_app (goodIn_of _ (by decide +kernel)) ggX6_houseOf_X6_ofHouse
set_option maxRecDepth 20000 in
theorem ggX6_houseOf_X6_standing : GoodIn wsX6_houseOf wsX6_standing := goodIn_r _ [16, 1, 17, 18, 5, 19, 67, 68, 69, 70, 71, 72, 73] (by decide +kernel) (by decide +kernel)
set_option maxRecDepth 20000 in
theorem gX6_houseOf_X6_standing : GoodIn wsX6_houseOf (wsV RX6 210 RX6 yX6_standing wsX6_standing) := goodIn_app (goodIn_of _ (by decide +kernel)) ggX6_houseOf_X6_standing
set_option maxRecDepth 20000 in
theorem ggX6_houseOf_X6_troubled : GoodIn wsX6_houseOf wsX6_troubled := goodIn_r _ [23, 1, 24, 25, 26, 5, 27, 28, 29, 30, 31, 32, 33, 34, 35, 36, 37, 38, 10, 11, 12, 39, 40, 41, 42, 43, 44, 45, 46, 47, 48, 49, 50, 51, 52, 53, 54, 55, 56, 57, 58, 59, 60, 7, 8, 9, 61, 62, 63, 64, 65, 66, 67, 68, 69, 70, 71, 72, 73] (by decide +kernel) (by decide +kernel)
set_option maxRecDepth 20000 in
theorem gX6_houseOf_X6_troubled : GoodIn wsX6_houseOf (wsV RX6 213 RX6 yX6_troubled wsX6_troubled) := goodIn_app (goodIn_of _ (by decide +kernel)) ggX6_houseOf_X6_troubled
theorem dX6_houseOf_0 : decode cX6_houseOf 0 = .ok (.aload_n 0, 1) := by decide +kernel
theorem dX6_houseOf_1 : decode cX6_houseOf 1 = .ok (.iconst 0, 1) := by decide +kernel
theorem dX6_houseOf_2 : decode cX6_houseOf 2 = .ok (.iload_n 1, 1) := by decide +kernel
theorem dX6_houseOf_3 : decode cX6_houseOf 3 = .ok (.invokevirtual 85, 3) := by decide +kernel
theorem dX6_houseOf_6 : decode cX6_houseOf 6 = .ok (.ifCond .ne 5, 3) := by decide +kernel
theorem dX6_houseOf_9 : decode cX6_houseOf 9 = .ok (.iconst (-1), 1) := by decide +kernel
theorem dX6_houseOf_10 : decode cX6_houseOf 10 = .ok (.ireturn, 1) := by decide +kernel
theorem dX6_houseOf_11 : decode cX6_houseOf 11 = .ok (.iload_n 2, 1) := by decide +kernel
theorem dX6_houseOf_12 : decode cX6_houseOf 12 = .ok (.tableswitch 88 0 5 #[40, 40, 52, 73, 79, 79], 40) := by decide +kernel
theorem dX6_houseOf_52 : decode cX6_houseOf 52 = .ok (.aload_n 0, 1) := by decide +kernel
theorem dX6_houseOf_53 : decode cX6_houseOf 53 = .ok (.getfield 7, 3) := by decide +kernel
theorem dX6_houseOf_56 : decode cX6_houseOf 56 = .ok (.iconst 0, 1) := by decide +kernel
theorem dX6_houseOf_57 : decode cX6_houseOf 57 = .ok (.iload_n 1, 1) := by decide +kernel
theorem dX6_houseOf_58 : decode cX6_houseOf 58 = .ok (.iload_n 2, 1) := by decide +kernel
theorem dX6_houseOf_59 : decode cX6_houseOf 59 = .ok (.invokestatic 61, 3) := by decide +kernel
theorem dX6_houseOf_62 : decode cX6_houseOf 62 = .ok (.iaload, 1) := by decide +kernel
theorem dX6_houseOf_63 : decode cX6_houseOf 63 = .ok (.ireturn, 1) := by decide +kernel
theorem dX6_houseOf_64 : decode cX6_houseOf 64 = .ok (.aload_n 0, 1) := by decide +kernel
theorem dX6_houseOf_65 : decode cX6_houseOf 65 = .ok (.getfield 7, 3) := by decide +kernel
theorem dX6_houseOf_68 : decode cX6_houseOf 68 = .ok (.iconst 0, 1) := by decide +kernel
theorem dX6_houseOf_69 : decode cX6_houseOf 69 = .ok (.iload_n 1, 1) := by decide +kernel
theorem dX6_houseOf_70 : decode cX6_houseOf 70 = .ok (.iconst 1, 1) := by decide +kernel
theorem dX6_houseOf_71 : decode cX6_houseOf 71 = .ok (.invokestatic 61, 3) := by decide +kernel
theorem dX6_houseOf_74 : decode cX6_houseOf 74 = .ok (.iaload, 1) := by decide +kernel
theorem dX6_houseOf_75 : decode cX6_houseOf 75 = .ok (.iconst 3, 1) := by decide +kernel
theorem dX6_houseOf_76 : decode cX6_houseOf 76 = .ok (.if_icmp .lt 7, 3) := by decide +kernel
theorem dX6_houseOf_79 : decode cX6_houseOf 79 = .ok (.iconst 1, 1) := by decide +kernel
theorem dX6_houseOf_80 : decode cX6_houseOf 80 = .ok (.goto 4, 3) := by decide +kernel
theorem dX6_houseOf_83 : decode cX6_houseOf 83 = .ok (.iconst 0, 1) := by decide +kernel
theorem dX6_houseOf_84 : decode cX6_houseOf 84 = .ok (.ireturn, 1) := by decide +kernel
theorem dX6_houseOf_85 : decode cX6_houseOf 85 = .ok (.aload_n 0, 1) := by decide +kernel
theorem dX6_houseOf_86 : decode cX6_houseOf 86 = .ok (.iload_n 1, 1) := by decide +kernel
theorem dX6_houseOf_87 : decode cX6_houseOf 87 = .ok (.invokevirtual 210, 3) := by decide +kernel
theorem dX6_houseOf_90 : decode cX6_houseOf 90 = .ok (.ireturn, 1) := by decide +kernel
theorem dX6_houseOf_91 : decode cX6_houseOf 91 = .ok (.aload_n 0, 1) := by decide +kernel
theorem dX6_houseOf_92 : decode cX6_houseOf 92 = .ok (.iload_n 1, 1) := by decide +kernel
theorem dX6_houseOf_93 : decode cX6_houseOf 93 = .ok (.iload_n 2, 1) := by decide +kernel
theorem dX6_houseOf_94 : decode cX6_houseOf 94 = .ok (.iconst 4, 1) := by decide +kernel
theorem dX6_houseOf_95 : decode cX6_houseOf 95 = .ok (.isub, 1) := by decide +kernel
theorem dX6_houseOf_96 : decode cX6_houseOf 96 = .ok (.invokevirtual 213, 3) := by decide +kernel
theorem dX6_houseOf_99 : decode cX6_houseOf 99 = .ok (.ireturn, 1) := by decide +kernel
theorem dX6_houseOf_100 : decode cX6_houseOf 100 = .ok (.bipush (-2), 2) := by decide +kernel
theorem dX6_houseOf_102 : decode cX6_houseOf 102 = .ok (.ireturn, 1) := by decide +kernel
set_option maxRecDepth 20000 in
theorem ggX6_noiseOf_X6_turns : GoodIn wsX6_noiseOf wsX6_turns := goodIn_r _ [5, 6, 7, 8, 9, 4, 10, 11, 12, 13, 21, 22, 23, 24, 25, 26, 27] (by decide +kernel) (by decide +kernel)
set_option maxRecDepth 20000 in
theorem gX6_noiseOf_X6_turns : GoodIn wsX6_noiseOf (wsV RX6 198 RX6 yX6_turns wsX6_turns) := goodIn_app (goodIn_of _ (by decide +kernel)) ggX6_noiseOf_X6_turns
set_option maxRecDepth 20000 in
theorem ggX6_noiseOf_X6_loud : GoodIn wsX6_noiseOf wsX6_loud := goodIn_r _ [17, 6, 11, 12, 4, 13, 18, 19, 20, 21, 22, 23, 24, 25, 26, 27] (by decide +kernel) (by decide +kernel)
set_option maxRecDepth 20000 in
theorem gX6_noiseOf_X6_loud : GoodIn wsX6_noiseOf (wsV RX6 64 RX6 yX6_loud wsX6_loud) := goodIn_app (goodIn_of _ (by decide +kernel)) ggX6_noiseOf_X6_loud
theorem dX6_noiseOf_0 : decode cX6_noiseOf 0 = .ok (.aload_n 0, 1) := by decide +kernel
theorem dX6_noiseOf_1 : decode cX6_noiseOf 1 = .ok (.iconst 0, 1) := by decide +kernel
theorem dX6_noiseOf_2 : decode cX6_noiseOf 2 = .ok (.iload_n 1, 1) := by decide +kernel
theorem dX6_noiseOf_3 : decode cX6_noiseOf 3 = .ok (.iload_n 3, 1) := by decide +kernel
theorem dX6_noiseOf_4 : decode cX6_noiseOf 4 = .ok (.invokevirtual 198, 3) := by decide +kernel
theorem dX6_noiseOf_7 : decode cX6_noiseOf 7 = .ok (.ifCond .eq 14, 3) := by decide +kernel
theorem dX6_noiseOf_10 : decode cX6_noiseOf 10 = .ok (.aload_n 0, 1) := by decide +kernel
theorem dX6_noiseOf_11 : decode cX6_noiseOf 11 = .ok (.iconst 0, 1) := by decide +kernel
theorem dX6_noiseOf_12 : decode cX6_noiseOf 12 = .ok (.iload_n 1, 1) := by decide +kernel
theorem dX6_noiseOf_13 : decode cX6_noiseOf 13 = .ok (.iload_n 2, 1) := by decide +kernel
theorem dX6_noiseOf_14 : decode cX6_noiseOf 14 = .ok (.iload_n 3, 1) := by decide +kernel
theorem dX6_noiseOf_15 : decode cX6_noiseOf 15 = .ok (.invokevirtual 64, 3) := by decide +kernel
theorem dX6_noiseOf_18 : decode cX6_noiseOf 18 = .ok (.goto 4, 3) := by decide +kernel
theorem dX6_noiseOf_21 : decode cX6_noiseOf 21 = .ok (.iconst 0, 1) := by decide +kernel
theorem dX6_noiseOf_22 : decode cX6_noiseOf 22 = .ok (.ireturn, 1) := by decide +kernel
set_option maxRecDepth 20000 in
theorem ggX6_noise_X6_isMill : GoodIn wsX6_noise wsX6_isMill := goodIn_r _ [5, 6, 7, 8, 4, 9, 38, 39, 40, 41, 42, 43, 44] (by decide +kernel) (by decide +kernel)
set_option maxRecDepth 20000 in
theorem gX6_noise_X6_isMill : GoodIn wsX6_noise (wsV RX6 89 RX6 yX6_isMill wsX6_isMill) := goodIn_app (goodIn_of _ (by decide +kernel)) ggX6_noise_X6_isMill
set_option maxRecDepth 20000 in
theorem ggX6_noise_X6_isYard : GoodIn wsX6_noise wsX6_isYard := goodIn_r _ [12, 7, 8, 4, 9] (by decide +kernel) (by decide +kernel)
set_option maxRecDepth 20000 in
theorem gX6_noise_X6_isYard : GoodIn wsX6_noise (va_wsS RX6 133 yX6_isYard wsX6_isYard) := goodIn_app (goodIn_of _ (by decide +kernel)) ggX6_noise_X6_isYard
set_option maxRecDepth 20000 in
theorem ggX6_noise_X6_isHour : GoodIn wsX6_noise wsX6_isHour := goodIn_r _ [15, 7, 8, 4, 9] (by decide +kernel) (by decide +kernel)
set_option maxRecDepth 20000 in
theorem gX6_noise_X6_isHour : GoodIn wsX6_noise (va_wsS RX6 82 yX6_isHour wsX6_isHour) := goodIn_app (goodIn_of _ (by decide +kernel)) ggX6_noise_X6_isHour
set_option maxRecDepth 20000 in
theorem ggX6_noise_X6_noiseOf : GoodIn wsX6_noise wsX6_noiseOf := goodIn_r _ [19, 20, 21, 22, 4, 23, 6, 24, 25, 26, 27, 28, 29, 30, 31, 32, 33, 34, 35, 36, 37, 38, 39, 40, 41, 42, 43, 44] (by decide +kernel) (by decide +kernel)
set_option maxRecDepth 20000 in
theorem gX6_noise_X6_noiseOf : GoodIn wsX6_noise (wsV RX6 216 RX6 yX6_noiseOf wsX6_noiseOf) := goodIn_app (goodIn_of _ (by decide +kernel)) ggX6_noise_X6_noiseOf
theorem dX6_noise_0 : decode cX6_noise 0 = .ok (.aload_n 0, 1) := by decide +kernel
theorem dX6_noise_1 : decode cX6_noise 1 = .ok (.iconst 0, 1) := by decide +kernel
theorem dX6_noise_2 : decode cX6_noise 2 = .ok (.iload_n 1, 1) := by decide +kernel
theorem dX6_noise_3 : decode cX6_noise 3 = .ok (.invokevirtual 89, 3) := by decide +kernel
theorem dX6_noise_6 : decode cX6_noise 6 = .ok (.ifCond .eq 27, 3) := by decide +kernel
theorem dX6_noise_9 : decode cX6_noise 9 = .ok (.iload_n 2, 1) := by decide +kernel
theorem dX6_noise_10 : decode cX6_noise 10 = .ok (.invokestatic 133, 3) := by decide +kernel
theorem dX6_noise_13 : decode cX6_noise 13 = .ok (.ifCond .eq 20, 3) := by decide +kernel
theorem dX6_noise_16 : decode cX6_noise 16 = .ok (.iload_n 3, 1) := by decide +kernel
theorem dX6_noise_17 : decode cX6_noise 17 = .ok (.invokestatic 82, 3) := by decide +kernel
theorem dX6_noise_20 : decode cX6_noise 20 = .ok (.ifCond .eq 13, 3) := by decide +kernel
theorem dX6_noise_23 : decode cX6_noise 23 = .ok (.aload_n 0, 1) := by decide +kernel
theorem dX6_noise_24 : decode cX6_noise 24 = .ok (.iload_n 1, 1) := by decide +kernel
theorem dX6_noise_25 : decode cX6_noise 25 = .ok (.iload_n 2, 1) := by decide +kernel
theorem dX6_noise_26 : decode cX6_noise 26 = .ok (.iload_n 3, 1) := by decide +kernel
theorem dX6_noise_27 : decode cX6_noise 27 = .ok (.invokevirtual 216, 3) := by decide +kernel
theorem dX6_noise_30 : decode cX6_noise 30 = .ok (.goto 4, 3) := by decide +kernel
theorem dX6_noise_33 : decode cX6_noise 33 = .ok (.iconst (-1), 1) := by decide +kernel
theorem dX6_noise_34 : decode cX6_noise 34 = .ok (.ireturn, 1) := by decide +kernel
set_option maxRecDepth 20000 in
theorem ggX6_shadow_X6_isMill : GoodIn wsX6_shadow wsX6_isMill := goodIn_r _ [5, 6, 7, 8, 4, 9, 43, 44, 45, 46, 47, 48, 49] (by decide +kernel) (by decide +kernel)
set_option maxRecDepth 20000 in
theorem gX6_shadow_X6_isMill : GoodIn wsX6_shadow (wsV RX6 89 RX6 yX6_isMill wsX6_isMill) := goodIn_app (goodIn_of _ (by decide +kernel)) ggX6_shadow_X6_isMill
set_option maxRecDepth 20000 in
theorem ggX6_shadow_X6_isYard : GoodIn wsX6_shadow wsX6_isYard := goodIn_r _ [12, 7, 8, 4, 9] (by decide +kernel) (by decide +kernel)
set_option maxRecDepth 20000 in
theorem gX6_shadow_X6_isYard : GoodIn wsX6_shadow (va_wsS RX6 133 yX6_isYard wsX6_isYard) := goodIn_app (goodIn_of _ (by decide +kernel)) ggX6_shadow_X6_isYard
set_option maxRecDepth 20000 in
theorem ggX6_shadow_X6_isHour : GoodIn wsX6_shadow wsX6_isHour := goodIn_r _ [15, 7, 8, 4, 9] (by decide +kernel) (by decide +kernel)
set_option maxRecDepth 20000 in
theorem gX6_shadow_X6_isHour : GoodIn wsX6_shadow (va_wsS RX6 82 yX6_isHour wsX6_isHour) := goodIn_app (goodIn_of _ (by decide +kernel)) ggX6_shadow_X6_isHour
set_option maxRecDepth 20000 in
theorem ggX6_shadow_X6_in : GoodIn wsX6_shadow wsX6_in := goodIn_r _ [9] (by decide +kernel) (by decide +kernel)
set_option maxRecDepth 20000 in
theorem gX6_shadow_X6_in : GoodIn wsX6_shadow (va_wsS RX6 22 yX6_in wsX6_in) := goodIn_app (goodIn_of _ (by decide +kernel)) ggX6_shadow_X6_in
set_option maxRecDepth 20000 in
theorem ggX6_shadow_X6_walks : GoodIn wsX6_shadow wsX6_walks := goodIn_r _ [19, 6, 20, 21, 4, 22, 23, 24, 25, 26, 27, 28, 29, 7, 8, 9, 30, 31, 32, 33, 34, 35, 43, 44, 45, 46, 47, 48, 49] (by decide +kernel) (by decide +kernel)
set_option maxRecDepth 20000 in
theorem gX6_shadow_X6_walks : GoodIn wsX6_shadow (wsV RX6 71 RX6 yX6_walks wsX6_walks) := goodIn_app (goodIn_of _ (by decide +kernel)) ggX6_shadow_X6_walks
set_option maxRecDepth 20000 in
theorem ggX6_shadow_X6_lies : GoodIn wsX6_shadow wsX6_lies := goodIn_r _ [39, 6, 20, 21, 4, 22, 40, 41, 42, 23, 24, 25, 26, 27, 28, 29, 7, 8, 9, 30, 31, 32, 33, 34, 35, 43, 44, 45, 46, 47, 48, 49] (by decide +kernel) (by decide +kernel)
set_option maxRecDepth 20000 in
theorem gX6_shadow_X6_lies : GoodIn wsX6_shadow (wsV RX6 219 RX6 yX6_lies wsX6_lies) := goodIn_app (goodIn_of _ (by decide +kernel)) ggX6_shadow_X6_lies
theorem dX6_shadow_0 : decode cX6_shadow 0 = .ok (.aload_n 0, 1) := by decide +kernel
theorem dX6_shadow_1 : decode cX6_shadow 1 = .ok (.iconst 0, 1) := by decide +kernel
theorem dX6_shadow_2 : decode cX6_shadow 2 = .ok (.iload_n 1, 1) := by decide +kernel
theorem dX6_shadow_3 : decode cX6_shadow 3 = .ok (.invokevirtual 89, 3) := by decide +kernel
theorem dX6_shadow_6 : decode cX6_shadow 6 = .ok (.ifCond .eq 17, 3) := by decide +kernel
theorem dX6_shadow_9 : decode cX6_shadow 9 = .ok (.iload_n 2, 1) := by decide +kernel
theorem dX6_shadow_10 : decode cX6_shadow 10 = .ok (.invokestatic 133, 3) := by decide +kernel
theorem dX6_shadow_13 : decode cX6_shadow 13 = .ok (.ifCond .eq 10, 3) := by decide +kernel
theorem dX6_shadow_16 : decode cX6_shadow 16 = .ok (.iload_n 3, 1) := by decide +kernel
theorem dX6_shadow_17 : decode cX6_shadow 17 = .ok (.invokestatic 82, 3) := by decide +kernel
theorem dX6_shadow_20 : decode cX6_shadow 20 = .ok (.ifCond .ne 5, 3) := by decide +kernel
theorem dX6_shadow_23 : decode cX6_shadow 23 = .ok (.iconst (-1), 1) := by decide +kernel
theorem dX6_shadow_24 : decode cX6_shadow 24 = .ok (.ireturn, 1) := by decide +kernel
theorem dX6_shadow_25 : decode cX6_shadow 25 = .ok (.iload 4, 2) := by decide +kernel
theorem dX6_shadow_27 : decode cX6_shadow 27 = .ok (.iconst 0, 1) := by decide +kernel
theorem dX6_shadow_28 : decode cX6_shadow 28 = .ok (.iconst 1, 1) := by decide +kernel
theorem dX6_shadow_29 : decode cX6_shadow 29 = .ok (.invokestatic 22, 3) := by decide +kernel
theorem dX6_shadow_32 : decode cX6_shadow 32 = .ok (.ifCond .ne 6, 3) := by decide +kernel
theorem dX6_shadow_35 : decode cX6_shadow 35 = .ok (.bipush (-2), 2) := by decide +kernel
theorem dX6_shadow_37 : decode cX6_shadow 37 = .ok (.ireturn, 1) := by decide +kernel
theorem dX6_shadow_38 : decode cX6_shadow 38 = .ok (.iload 4, 2) := by decide +kernel
theorem dX6_shadow_40 : decode cX6_shadow 40 = .ok (.ifCond .ne 14, 3) := by decide +kernel
theorem dX6_shadow_43 : decode cX6_shadow 43 = .ok (.aload_n 0, 1) := by decide +kernel
theorem dX6_shadow_44 : decode cX6_shadow 44 = .ok (.iconst 0, 1) := by decide +kernel
theorem dX6_shadow_45 : decode cX6_shadow 45 = .ok (.iload_n 1, 1) := by decide +kernel
theorem dX6_shadow_46 : decode cX6_shadow 46 = .ok (.iload_n 2, 1) := by decide +kernel
theorem dX6_shadow_47 : decode cX6_shadow 47 = .ok (.iload_n 3, 1) := by decide +kernel
theorem dX6_shadow_48 : decode cX6_shadow 48 = .ok (.invokevirtual 71, 3) := by decide +kernel
theorem dX6_shadow_51 : decode cX6_shadow 51 = .ok (.goto 11, 3) := by decide +kernel
theorem dX6_shadow_54 : decode cX6_shadow 54 = .ok (.aload_n 0, 1) := by decide +kernel
theorem dX6_shadow_55 : decode cX6_shadow 55 = .ok (.iconst 0, 1) := by decide +kernel
theorem dX6_shadow_56 : decode cX6_shadow 56 = .ok (.iload_n 1, 1) := by decide +kernel
theorem dX6_shadow_57 : decode cX6_shadow 57 = .ok (.iload_n 2, 1) := by decide +kernel
theorem dX6_shadow_58 : decode cX6_shadow 58 = .ok (.iload_n 3, 1) := by decide +kernel
theorem dX6_shadow_59 : decode cX6_shadow 59 = .ok (.invokevirtual 219, 3) := by decide +kernel
theorem dX6_shadow_62 : decode cX6_shadow 62 = .ok (.istore 5, 2) := by decide +kernel
theorem dX6_shadow_64 : decode cX6_shadow 64 = .ok (.iload 5, 2) := by decide +kernel
theorem dX6_shadow_66 : decode cX6_shadow 66 = .ok (.ifCond .eq 7, 3) := by decide +kernel
theorem dX6_shadow_69 : decode cX6_shadow 69 = .ok (.iconst 1, 1) := by decide +kernel
theorem dX6_shadow_70 : decode cX6_shadow 70 = .ok (.goto 4, 3) := by decide +kernel
theorem dX6_shadow_73 : decode cX6_shadow 73 = .ok (.iconst 0, 1) := by decide +kernel
theorem dX6_shadow_74 : decode cX6_shadow 74 = .ok (.ireturn, 1) := by decide +kernel
set_option maxRecDepth 20000 in
theorem ggX6_why_X6_wrong : GoodIn wsX6_why wsX6_wrong := goodIn_r _ [5, 6, 7, 8, 4, 9, 10, 11, 12, 13, 14, 15, 16, 17, 18, 19, 20, 21, 22, 23, 73, 74, 75, 76, 77, 78, 79] (by decide +kernel) (by decide +kernel)
set_option maxRecDepth 20000 in
theorem gX6_why_X6_wrong : GoodIn wsX6_why (wsV RX6 102 RX6 yX6_wrong wsX6_wrong) := goodIn_app (goodIn_of _ (by decide +kernel)) ggX6_why_X6_wrong
set_option maxRecDepth 20000 in
theorem ggX6_why_X6_reason : GoodIn wsX6_why wsX6_reason := goodIn_r _ [27, 10, 28, 29, 4, 30, 31, 32, 33, 34, 35, 36, 37, 38, 39, 40, 41, 42, 43, 44, 45, 46, 47, 48, 49, 50, 51, 52, 53, 54, 55, 56, 57, 58, 59, 60, 61, 62, 63, 64, 65, 66, 11, 12, 13, 67, 68, 69, 70, 71, 72, 73, 74, 75, 76, 77, 78, 79] (by decide +kernel) (by decide +kernel)
set_option maxRecDepth 20000 in
theorem gX6_why_X6_reason : GoodIn wsX6_why (wsV RX6 95 RX6 yX6_reason wsX6_reason) := goodIn_app (goodIn_of _ (by decide +kernel)) ggX6_why_X6_reason
theorem dX6_why_0 : decode cX6_why 0 = .ok (.aload_n 0, 1) := by decide +kernel
theorem dX6_why_1 : decode cX6_why 1 = .ok (.iconst 0, 1) := by decide +kernel
theorem dX6_why_2 : decode cX6_why 2 = .ok (.iload_n 1, 1) := by decide +kernel
theorem dX6_why_3 : decode cX6_why 3 = .ok (.iload_n 2, 1) := by decide +kernel
theorem dX6_why_4 : decode cX6_why 4 = .ok (.iload_n 3, 1) := by decide +kernel
theorem dX6_why_5 : decode cX6_why 5 = .ok (.iload 4, 2) := by decide +kernel
theorem dX6_why_7 : decode cX6_why 7 = .ok (.invokevirtual 102, 3) := by decide +kernel
theorem dX6_why_10 : decode cX6_why 10 = .ok (.istore 5, 2) := by decide +kernel
theorem dX6_why_12 : decode cX6_why 12 = .ok (.iload 5, 2) := by decide +kernel
theorem dX6_why_14 : decode cX6_why 14 = .ok (.ifCond .ge 8, 3) := by decide +kernel
theorem dX6_why_17 : decode cX6_why 17 = .ok (.iload 5, 2) := by decide +kernel
theorem dX6_why_19 : decode cX6_why 19 = .ok (.goto 13, 3) := by decide +kernel
theorem dX6_why_22 : decode cX6_why 22 = .ok (.aload_n 0, 1) := by decide +kernel
theorem dX6_why_23 : decode cX6_why 23 = .ok (.iconst 0, 1) := by decide +kernel
theorem dX6_why_24 : decode cX6_why 24 = .ok (.iload_n 1, 1) := by decide +kernel
theorem dX6_why_25 : decode cX6_why 25 = .ok (.iload_n 2, 1) := by decide +kernel
theorem dX6_why_26 : decode cX6_why 26 = .ok (.iload_n 3, 1) := by decide +kernel
theorem dX6_why_27 : decode cX6_why 27 = .ok (.iload 4, 2) := by decide +kernel
theorem dX6_why_29 : decode cX6_why 29 = .ok (.invokevirtual 95, 3) := by decide +kernel
theorem dX6_why_32 : decode cX6_why 32 = .ok (.ireturn, 1) := by decide +kernel
set_option maxRecDepth 20000 in
theorem ggX6_ofMills_X6_ofMill : GoodIn wsX6_ofMills wsX6_ofMill := goodIn_r _ [5] (by decide +kernel) (by decide +kernel)
set_option maxRecDepth 20000 in
theorem gX6_ofMills_X6_ofMill : GoodIn wsX6_ofMills (va_wsS RX6 36 yX6_ofMill wsX6_ofMill) := goodIn_app (goodIn_of _ (by decide +kernel)) ggX6_ofMills_X6_ofMill
set_option maxRecDepth 20000 in
theorem ggX6_ofMills_X6_ones : GoodIn wsX6_ofMills wsX6_ones := goodIn_r _ [8] (by decide +kernel) (by decide +kernel)
set_option maxRecDepth 20000 in
theorem gX6_ofMills_X6_ones : GoodIn wsX6_ofMills (va_wsS RX6 114 yX6_ones wsX6_ones) := goodIn_app (goodIn_of _ (by decide +kernel)) ggX6_ofMills_X6_ones
set_option maxRecDepth 20000 in
theorem ggX6_ofMills_X6_turning : GoodIn wsX6_ofMills wsX6_turning := goodIn_r _ [12, 13, 14, 15, 4, 16, 1, 17, 18, 19, 20, 2, 3, 5, 25, 26, 27, 28, 29, 30, 31] (by decide +kernel) (by decide +kernel)
set_option maxRecDepth 20000 in
theorem gX6_ofMills_X6_turning : GoodIn wsX6_ofMills (wsV RX6 201 RX6 yX6_turning wsX6_turning) := goodIn_app (goodIn_of _ (by decide +kernel)) ggX6_ofMills_X6_turning
set_option maxRecDepth 20000 in
theorem ggX6_ofMills_X6_grain : GoodIn wsX6_ofMills wsX6_grain := goodIn_r _ [24, 1, 25, 26, 27, 28, 29, 30, 31] (by decide +kernel) (by decide +kernel)
set_option maxRecDepth 20000 in
theorem gX6_ofMills_X6_grain : GoodIn wsX6_ofMills (wsV RX6 204 RX6 yX6_grain wsX6_grain) := goodIn_app (goodIn_of _ (by decide +kernel)) ggX6_ofMills_X6_grain
theorem dX6_ofMills_0 : decode cX6_ofMills 0 = .ok (.iconst 0, 1) := by decide +kernel
theorem dX6_ofMills_1 : decode cX6_ofMills 1 = .ok (.istore_n 2, 1) := by decide +kernel
theorem dX6_ofMills_2 : decode cX6_ofMills 2 = .ok (.iconst 0, 1) := by decide +kernel
theorem dX6_ofMills_3 : decode cX6_ofMills 3 = .ok (.istore_n 3, 1) := by decide +kernel
theorem dX6_ofMills_4 : decode cX6_ofMills 4 = .ok (.iload_n 3, 1) := by decide +kernel
theorem dX6_ofMills_5 : decode cX6_ofMills 5 = .ok (.aload_n 0, 1) := by decide +kernel
theorem dX6_ofMills_6 : decode cX6_ofMills 6 = .ok (.getfield 7, 3) := by decide +kernel
theorem dX6_ofMills_9 : decode cX6_ofMills 9 = .ok (.iconst 0, 1) := by decide +kernel
theorem dX6_ofMills_10 : decode cX6_ofMills 10 = .ok (.iaload, 1) := by decide +kernel
theorem dX6_ofMills_11 : decode cX6_ofMills 11 = .ok (.if_icmp .ge 58, 3) := by decide +kernel
theorem dX6_ofMills_14 : decode cX6_ofMills 14 = .ok (.iload_n 2, 1) := by decide +kernel
theorem dX6_ofMills_15 : decode cX6_ofMills 15 = .ok (.iload_n 1, 1) := by decide +kernel
theorem dX6_ofMills_16 : decode cX6_ofMills 16 = .ok (.bipush 8, 2) := by decide +kernel
theorem dX6_ofMills_18 : decode cX6_ofMills 18 = .ok (.if_icmp .ne 20, 3) := by decide +kernel
theorem dX6_ofMills_21 : decode cX6_ofMills 21 = .ok (.aload_n 0, 1) := by decide +kernel
theorem dX6_ofMills_22 : decode cX6_ofMills 22 = .ok (.getfield 7, 3) := by decide +kernel
theorem dX6_ofMills_25 : decode cX6_ofMills 25 = .ok (.iconst 0, 1) := by decide +kernel
theorem dX6_ofMills_26 : decode cX6_ofMills 26 = .ok (.iload_n 3, 1) := by decide +kernel
theorem dX6_ofMills_27 : decode cX6_ofMills 27 = .ok (.iconst 2, 1) := by decide +kernel
theorem dX6_ofMills_28 : decode cX6_ofMills 28 = .ok (.invokestatic 36, 3) := by decide +kernel
theorem dX6_ofMills_31 : decode cX6_ofMills 31 = .ok (.iaload, 1) := by decide +kernel
theorem dX6_ofMills_32 : decode cX6_ofMills 32 = .ok (.invokestatic 114, 3) := by decide +kernel
theorem dX6_ofMills_35 : decode cX6_ofMills 35 = .ok (.goto 26, 3) := by decide +kernel
theorem dX6_ofMills_38 : decode cX6_ofMills 38 = .ok (.iload_n 1, 1) := by decide +kernel
theorem dX6_ofMills_39 : decode cX6_ofMills 39 = .ok (.bipush 9, 2) := by decide +kernel
theorem dX6_ofMills_41 : decode cX6_ofMills 41 = .ok (.if_icmp .ne 15, 3) := by decide +kernel
theorem dX6_ofMills_44 : decode cX6_ofMills 44 = .ok (.aload_n 0, 1) := by decide +kernel
theorem dX6_ofMills_45 : decode cX6_ofMills 45 = .ok (.aload_n 0, 1) := by decide +kernel
theorem dX6_ofMills_46 : decode cX6_ofMills 46 = .ok (.iload_n 3, 1) := by decide +kernel
theorem dX6_ofMills_47 : decode cX6_ofMills 47 = .ok (.invokevirtual 201, 3) := by decide +kernel
theorem dX6_ofMills_50 : decode cX6_ofMills 50 = .ok (.invokevirtual 204, 3) := by decide +kernel
theorem dX6_ofMills_53 : decode cX6_ofMills 53 = .ok (.goto 8, 3) := by decide +kernel
theorem dX6_ofMills_56 : decode cX6_ofMills 56 = .ok (.aload_n 0, 1) := by decide +kernel
theorem dX6_ofMills_57 : decode cX6_ofMills 57 = .ok (.iconst (-1), 1) := by decide +kernel
theorem dX6_ofMills_58 : decode cX6_ofMills 58 = .ok (.invokevirtual 204, 3) := by decide +kernel
theorem dX6_ofMills_61 : decode cX6_ofMills 61 = .ok (.iadd, 1) := by decide +kernel
theorem dX6_ofMills_62 : decode cX6_ofMills 62 = .ok (.istore_n 2, 1) := by decide +kernel
theorem dX6_ofMills_63 : decode cX6_ofMills 63 = .ok (.iinc 3 1, 3) := by decide +kernel
theorem dX6_ofMills_66 : decode cX6_ofMills 66 = .ok (.goto (-62), 3) := by decide +kernel
theorem dX6_ofMills_69 : decode cX6_ofMills 69 = .ok (.iload_n 2, 1) := by decide +kernel
theorem dX6_ofMills_70 : decode cX6_ofMills 70 = .ok (.ireturn, 1) := by decide +kernel
set_option maxRecDepth 20000 in
theorem ggX6_count_X6_ofMills : GoodIn wsX6_count wsX6_ofMills := goodIn_r _ [8, 1, 9, 10, 7, 11, 12, 13, 14, 15, 16, 17, 18, 19, 20, 21, 22, 23, 24, 25, 26, 27, 28, 29, 30, 34, 35, 36, 37, 38, 39, 40] (by decide +kernel) (by decide +kernel)
set_option maxRecDepth 20000 in
theorem gX6_count_X6_ofMills : GoodIn wsX6_count (wsV RX6 222 RX6 yX6_ofMills wsX6_ofMills) := goodIn_app (goodIn_of _ (by decide +kernel)) ggX6_count_X6_ofMills
set_option maxRecDepth 20000 in
theorem ggX6_count_X6_in : GoodIn wsX6_count wsX6_in := goodIn_r _ [33] (by decide +kernel) (by decide +kernel)
set_option maxRecDepth 20000 in
theorem gX6_count_X6_in : GoodIn wsX6_count (va_wsS RX6 22 yX6_in wsX6_in) := goodIn_app (goodIn_of _ (by decide +kernel)) ggX6_count_X6_in
theorem dX6_count_0 : decode cX6_count 0 = .ok (.iload_n 1, 1) := by decide +kernel
theorem dX6_count_1 : decode cX6_count 1 = .ok (.tableswitch 106 0 11 #[63, 70, 78, 78, 78, 78, 78, 78, 90, 90, 96, 101], 63) := by decide +kernel
theorem dX6_count_64 : decode cX6_count 64 = .ok (.aload_n 0, 1) := by decide +kernel
theorem dX6_count_65 : decode cX6_count 65 = .ok (.getfield 7, 3) := by decide +kernel
theorem dX6_count_68 : decode cX6_count 68 = .ok (.iconst 0, 1) := by decide +kernel
theorem dX6_count_69 : decode cX6_count 69 = .ok (.iaload, 1) := by decide +kernel
theorem dX6_count_70 : decode cX6_count 70 = .ok (.ireturn, 1) := by decide +kernel
theorem dX6_count_71 : decode cX6_count 71 = .ok (.aload_n 0, 1) := by decide +kernel
theorem dX6_count_72 : decode cX6_count 72 = .ok (.getfield 7, 3) := by decide +kernel
theorem dX6_count_75 : decode cX6_count 75 = .ok (.bipush 13, 2) := by decide +kernel
theorem dX6_count_77 : decode cX6_count 77 = .ok (.iaload, 1) := by decide +kernel
theorem dX6_count_78 : decode cX6_count 78 = .ok (.ireturn, 1) := by decide +kernel
theorem dX6_count_79 : decode cX6_count 79 = .ok (.aload_n 0, 1) := by decide +kernel
theorem dX6_count_80 : decode cX6_count 80 = .ok (.getfield 7, 3) := by decide +kernel
theorem dX6_count_83 : decode cX6_count 83 = .ok (.bipush 62, 2) := by decide +kernel
theorem dX6_count_85 : decode cX6_count 85 = .ok (.iload_n 1, 1) := by decide +kernel
theorem dX6_count_86 : decode cX6_count 86 = .ok (.iadd, 1) := by decide +kernel
theorem dX6_count_87 : decode cX6_count 87 = .ok (.iconst 2, 1) := by decide +kernel
theorem dX6_count_88 : decode cX6_count 88 = .ok (.isub, 1) := by decide +kernel
theorem dX6_count_89 : decode cX6_count 89 = .ok (.iaload, 1) := by decide +kernel
theorem dX6_count_90 : decode cX6_count 90 = .ok (.ireturn, 1) := by decide +kernel
theorem dX6_count_91 : decode cX6_count 91 = .ok (.aload_n 0, 1) := by decide +kernel
theorem dX6_count_92 : decode cX6_count 92 = .ok (.iload_n 1, 1) := by decide +kernel
theorem dX6_count_93 : decode cX6_count 93 = .ok (.invokevirtual 222, 3) := by decide +kernel
theorem dX6_count_96 : decode cX6_count 96 = .ok (.ireturn, 1) := by decide +kernel
theorem dX6_count_97 : decode cX6_count 97 = .ok (.aload_n 0, 1) := by decide +kernel
theorem dX6_count_98 : decode cX6_count 98 = .ok (.getfield 26, 3) := by decide +kernel
theorem dX6_count_101 : decode cX6_count 101 = .ok (.ireturn, 1) := by decide +kernel
theorem dX6_count_102 : decode cX6_count 102 = .ok (.aload_n 0, 1) := by decide +kernel
theorem dX6_count_103 : decode cX6_count 103 = .ok (.getfield 154, 3) := by decide +kernel
theorem dX6_count_106 : decode cX6_count 106 = .ok (.ireturn, 1) := by decide +kernel
theorem dX6_count_107 : decode cX6_count 107 = .ok (.iload_n 1, 1) := by decide +kernel
theorem dX6_count_108 : decode cX6_count 108 = .ok (.bipush 12, 2) := by decide +kernel
theorem dX6_count_110 : decode cX6_count 110 = .ok (.bipush 15, 2) := by decide +kernel
theorem dX6_count_112 : decode cX6_count 112 = .ok (.invokestatic 22, 3) := by decide +kernel
theorem dX6_count_115 : decode cX6_count 115 = .ok (.ifCond .eq 18, 3) := by decide +kernel
theorem dX6_count_118 : decode cX6_count 118 = .ok (.aload_n 0, 1) := by decide +kernel
theorem dX6_count_119 : decode cX6_count 119 = .ok (.getfield 7, 3) := by decide +kernel
theorem dX6_count_122 : decode cX6_count 122 = .ok (.bipush 58, 2) := by decide +kernel
theorem dX6_count_124 : decode cX6_count 124 = .ok (.iload_n 1, 1) := by decide +kernel
theorem dX6_count_125 : decode cX6_count 125 = .ok (.iadd, 1) := by decide +kernel
theorem dX6_count_126 : decode cX6_count 126 = .ok (.bipush 12, 2) := by decide +kernel
theorem dX6_count_128 : decode cX6_count 128 = .ok (.isub, 1) := by decide +kernel
theorem dX6_count_129 : decode cX6_count 129 = .ok (.iaload, 1) := by decide +kernel
theorem dX6_count_130 : decode cX6_count 130 = .ok (.goto 5, 3) := by decide +kernel
theorem dX6_count_133 : decode cX6_count 133 = .ok (.bipush (-2), 2) := by decide +kernel
theorem dX6_count_135 : decode cX6_count 135 = .ok (.ireturn, 1) := by decide +kernel
set_option maxRecDepth 20000 in
theorem ggX6_ground_X6_ofMills : GoodIn wsX6_ground wsX6_ofMills := goodIn_r _ [5, 6, 7, 8, 4, 9, 10, 11, 12, 13, 14, 15, 16, 17, 18, 19, 20, 21, 22, 23, 24, 25, 26, 27, 28, 29, 30, 31, 32, 33, 34, 35] (by decide +kernel) (by decide +kernel)
set_option maxRecDepth 20000 in
theorem gX6_ground_X6_ofMills : GoodIn wsX6_ground (wsV RX6 222 RX6 yX6_ofMills wsX6_ofMills) := goodIn_app (goodIn_of _ (by decide +kernel)) ggX6_ground_X6_ofMills
theorem dX6_ground_0 : decode cX6_ground 0 = .ok (.aload_n 0, 1) := by decide +kernel
theorem dX6_ground_1 : decode cX6_ground 1 = .ok (.iconst (-1), 1) := by decide +kernel
theorem dX6_ground_2 : decode cX6_ground 2 = .ok (.invokevirtual 222, 3) := by decide +kernel
theorem dX6_ground_5 : decode cX6_ground 5 = .ok (.ifCond .ne 7, 3) := by decide +kernel
theorem dX6_ground_8 : decode cX6_ground 8 = .ok (.fconst 1, 1) := by decide +kernel
theorem dX6_ground_9 : decode cX6_ground 9 = .ok (.goto 17, 3) := by decide +kernel
theorem dX6_ground_12 : decode cX6_ground 12 = .ok (.aload_n 0, 1) := by decide +kernel
theorem dX6_ground_13 : decode cX6_ground 13 = .ok (.bipush 9, 2) := by decide +kernel
theorem dX6_ground_15 : decode cX6_ground 15 = .ok (.invokevirtual 222, 3) := by decide +kernel
theorem dX6_ground_18 : decode cX6_ground 18 = .ok (.i2f, 1) := by decide +kernel
theorem dX6_ground_19 : decode cX6_ground 19 = .ok (.aload_n 0, 1) := by decide +kernel
theorem dX6_ground_20 : decode cX6_ground 20 = .ok (.iconst (-1), 1) := by decide +kernel
theorem dX6_ground_21 : decode cX6_ground 21 = .ok (.invokevirtual 222, 3) := by decide +kernel
theorem dX6_ground_24 : decode cX6_ground 24 = .ok (.i2f, 1) := by decide +kernel
theorem dX6_ground_25 : decode cX6_ground 25 = .ok (.fdiv, 1) := by decide +kernel
theorem dX6_ground_26 : decode cX6_ground 26 = .ok (.freturn, 1) := by decide +kernel
set_option maxRecDepth 20000 in
theorem ggX6_troubles_X6_votes : GoodIn wsX6_troubles wsX6_votes := goodIn_r _ [6, 1, 7, 8, 9, 5, 10, 11, 12, 13, 14, 15, 16, 17, 18, 19, 20, 21, 22, 23, 24, 25, 26, 27, 28, 29, 30, 31, 32, 33, 34, 35, 36, 37, 38, 39, 40, 41, 42, 43, 44, 45, 46, 47, 48, 49, 50, 51, 52, 53, 54, 55, 56, 57, 58] (by decide +kernel) (by decide +kernel)
set_option maxRecDepth 20000 in
theorem gX6_troubles_X6_votes : GoodIn wsX6_troubles (wsV RX6 124 RX6 yX6_votes wsX6_votes) := goodIn_app (goodIn_of _ (by decide +kernel)) ggX6_troubles_X6_votes
theorem dX6_troubles_0 : decode cX6_troubles 0 = .ok (.aload_n 0, 1) := by decide +kernel
theorem dX6_troubles_1 : decode cX6_troubles 1 = .ok (.getfield 7, 3) := by decide +kernel
theorem dX6_troubles_4 : decode cX6_troubles 4 = .ok (.bipush 13, 2) := by decide +kernel
theorem dX6_troubles_6 : decode cX6_troubles 6 = .ok (.iaload, 1) := by decide +kernel
theorem dX6_troubles_7 : decode cX6_troubles 7 = .ok (.aload_n 0, 1) := by decide +kernel
theorem dX6_troubles_8 : decode cX6_troubles 8 = .ok (.iload_n 1, 1) := by decide +kernel
theorem dX6_troubles_9 : decode cX6_troubles 9 = .ok (.iload_n 2, 1) := by decide +kernel
theorem dX6_troubles_10 : decode cX6_troubles 10 = .ok (.invokevirtual 124, 3) := by decide +kernel
theorem dX6_troubles_13 : decode cX6_troubles 13 = .ok (.isub, 1) := by decide +kernel
theorem dX6_troubles_14 : decode cX6_troubles 14 = .ok (.ireturn, 1) := by decide +kernel
set_option maxRecDepth 20000 in
theorem ggX6_quietHours_X6_isMill : GoodIn wsX6_quietHours wsX6_isMill := goodIn_r _ [6, 1, 7, 8, 5, 9, 60, 61, 62, 63, 64, 65, 66] (by decide +kernel) (by decide +kernel)
set_option maxRecDepth 20000 in
theorem gX6_quietHours_X6_isMill : GoodIn wsX6_quietHours (wsV RX6 89 RX6 yX6_isMill wsX6_isMill) := goodIn_app (goodIn_of _ (by decide +kernel)) ggX6_quietHours_X6_isMill
set_option maxRecDepth 20000 in
theorem ggX6_quietHours_X6_troubles : GoodIn wsX6_quietHours wsX6_troubles := goodIn_r _ [13, 1, 14, 15, 16, 5, 17, 18, 19, 20, 21, 22, 23, 24, 25, 26, 27, 28, 29, 30, 31, 32, 33, 34, 35, 36, 37, 38, 39, 40, 41, 42, 43, 44, 45, 46, 47, 48, 49, 50, 51, 52, 53, 7, 8, 9, 54, 55, 56, 57, 58, 59, 60, 61, 62, 63, 64, 65, 66] (by decide +kernel) (by decide +kernel)
set_option maxRecDepth 20000 in
theorem gX6_quietHours_X6_troubles : GoodIn wsX6_quietHours (wsV RX6 225 RX6 yX6_troubles wsX6_troubles) := goodIn_app (goodIn_of _ (by decide +kernel)) ggX6_quietHours_X6_troubles
theorem dX6_quietHours_0 : decode cX6_quietHours 0 = .ok (.aload_n 0, 1) := by decide +kernel
theorem dX6_quietHours_1 : decode cX6_quietHours 1 = .ok (.iconst 0, 1) := by decide +kernel
theorem dX6_quietHours_2 : decode cX6_quietHours 2 = .ok (.iload_n 1, 1) := by decide +kernel
theorem dX6_quietHours_3 : decode cX6_quietHours 3 = .ok (.invokevirtual 89, 3) := by decide +kernel
theorem dX6_quietHours_6 : decode cX6_quietHours 6 = .ok (.ifCond .ne 5, 3) := by decide +kernel
theorem dX6_quietHours_9 : decode cX6_quietHours 9 = .ok (.iconst (-1), 1) := by decide +kernel
theorem dX6_quietHours_10 : decode cX6_quietHours 10 = .ok (.ireturn, 1) := by decide +kernel
theorem dX6_quietHours_11 : decode cX6_quietHours 11 = .ok (.iconst 0, 1) := by decide +kernel
theorem dX6_quietHours_12 : decode cX6_quietHours 12 = .ok (.istore_n 2, 1) := by decide +kernel
theorem dX6_quietHours_13 : decode cX6_quietHours 13 = .ok (.iconst 0, 1) := by decide +kernel
theorem dX6_quietHours_14 : decode cX6_quietHours 14 = .ok (.istore_n 3, 1) := by decide +kernel
theorem dX6_quietHours_15 : decode cX6_quietHours 15 = .ok (.iload_n 3, 1) := by decide +kernel
theorem dX6_quietHours_16 : decode cX6_quietHours 16 = .ok (.bipush 24, 2) := by decide +kernel
theorem dX6_quietHours_18 : decode cX6_quietHours 18 = .ok (.if_icmp .ge 41, 3) := by decide +kernel
theorem dX6_quietHours_21 : decode cX6_quietHours 21 = .ok (.iload_n 2, 1) := by decide +kernel
theorem dX6_quietHours_22 : decode cX6_quietHours 22 = .ok (.aload_n 0, 1) := by decide +kernel
theorem dX6_quietHours_23 : decode cX6_quietHours 23 = .ok (.getfield 7, 3) := by decide +kernel
theorem dX6_quietHours_26 : decode cX6_quietHours 26 = .ok (.bipush 34, 2) := by decide +kernel
theorem dX6_quietHours_28 : decode cX6_quietHours 28 = .ok (.iload_n 3, 1) := by decide +kernel
theorem dX6_quietHours_29 : decode cX6_quietHours 29 = .ok (.iadd, 1) := by decide +kernel
theorem dX6_quietHours_30 : decode cX6_quietHours 30 = .ok (.iaload, 1) := by decide +kernel
theorem dX6_quietHours_31 : decode cX6_quietHours 31 = .ok (.iconst 2, 1) := by decide +kernel
theorem dX6_quietHours_32 : decode cX6_quietHours 32 = .ok (.if_icmp .lt 18, 3) := by decide +kernel
theorem dX6_quietHours_35 : decode cX6_quietHours 35 = .ok (.aload_n 0, 1) := by decide +kernel
theorem dX6_quietHours_36 : decode cX6_quietHours 36 = .ok (.iload_n 1, 1) := by decide +kernel
theorem dX6_quietHours_37 : decode cX6_quietHours 37 = .ok (.iload_n 3, 1) := by decide +kernel
theorem dX6_quietHours_38 : decode cX6_quietHours 38 = .ok (.invokevirtual 225, 3) := by decide +kernel
theorem dX6_quietHours_41 : decode cX6_quietHours 41 = .ok (.ifCond .ne 9, 3) := by decide +kernel
theorem dX6_quietHours_44 : decode cX6_quietHours 44 = .ok (.iconst 1, 1) := by decide +kernel
theorem dX6_quietHours_45 : decode cX6_quietHours 45 = .ok (.iload_n 3, 1) := by decide +kernel
theorem dX6_quietHours_46 : decode cX6_quietHours 46 = .ok (.ishl, 1) := by decide +kernel
theorem dX6_quietHours_47 : decode cX6_quietHours 47 = .ok (.goto 4, 3) := by decide +kernel
theorem dX6_quietHours_50 : decode cX6_quietHours 50 = .ok (.iconst 0, 1) := by decide +kernel
theorem dX6_quietHours_51 : decode cX6_quietHours 51 = .ok (.ior, 1) := by decide +kernel
theorem dX6_quietHours_52 : decode cX6_quietHours 52 = .ok (.istore_n 2, 1) := by decide +kernel
theorem dX6_quietHours_53 : decode cX6_quietHours 53 = .ok (.iinc 3 1, 3) := by decide +kernel
theorem dX6_quietHours_56 : decode cX6_quietHours 56 = .ok (.goto (-41), 3) := by decide +kernel
theorem dX6_quietHours_59 : decode cX6_quietHours 59 = .ok (.iload_n 2, 1) := by decide +kernel
theorem dX6_quietHours_60 : decode cX6_quietHours 60 = .ok (.ireturn, 1) := by decide +kernel
set_option maxRecDepth 20000 in
theorem ggX6_loudest_X6_isHour : GoodIn wsX6_loudest wsX6_isHour := goodIn_r _ [5, 6, 7, 4, 8] (by decide +kernel) (by decide +kernel)
set_option maxRecDepth 20000 in
theorem gX6_loudest_X6_isHour : GoodIn wsX6_loudest (va_wsS RX6 82 yX6_isHour wsX6_isHour) := goodIn_app (goodIn_of _ (by decide +kernel)) ggX6_loudest_X6_isHour
set_option maxRecDepth 20000 in
theorem ggX6_loudest_X6_ofHouse : GoodIn wsX6_loudest wsX6_ofHouse := goodIn_r _ [11] (by decide +kernel) (by decide +kernel)
set_option maxRecDepth 20000 in
theorem gX6_loudest_X6_ofHouse : GoodIn wsX6_loudest (va_wsS RX6 61 yX6_ofHouse wsX6_ofHouse) := goodIn_app (goodIn_of _ (by decide +kernel)) ggX6_loudest_X6_ofHouse
set_option maxRecDepth 20000 in
theorem ggX6_loudest_X6_noiseOf : GoodIn wsX6_loudest wsX6_noiseOf := goodIn_r _ [15, 16, 17, 18, 4, 19, 1, 20, 21, 22, 23, 24, 25, 26, 27, 28, 29, 30, 31, 32, 33, 34, 35, 36, 37, 38, 39, 40] (by decide +kernel) (by decide +kernel)
set_option maxRecDepth 20000 in
theorem gX6_loudest_X6_noiseOf : GoodIn wsX6_loudest (wsV RX6 216 RX6 yX6_noiseOf wsX6_noiseOf) := goodIn_app (goodIn_of _ (by decide +kernel)) ggX6_loudest_X6_noiseOf
theorem dX6_loudest_0 : decode cX6_loudest 0 = .ok (.iload_n 1, 1) := by decide +kernel
theorem dX6_loudest_1 : decode cX6_loudest 1 = .ok (.invokestatic 82, 3) := by decide +kernel
theorem dX6_loudest_4 : decode cX6_loudest 4 = .ok (.ifCond .ne 5, 3) := by decide +kernel
theorem dX6_loudest_7 : decode cX6_loudest 7 = .ok (.iconst (-1), 1) := by decide +kernel
theorem dX6_loudest_8 : decode cX6_loudest 8 = .ok (.ireturn, 1) := by decide +kernel
theorem dX6_loudest_9 : decode cX6_loudest 9 = .ok (.bipush (-5), 2) := by decide +kernel
theorem dX6_loudest_11 : decode cX6_loudest 11 = .ok (.istore_n 2, 1) := by decide +kernel
theorem dX6_loudest_12 : decode cX6_loudest 12 = .ok (.iconst 0, 1) := by decide +kernel
theorem dX6_loudest_13 : decode cX6_loudest 13 = .ok (.istore_n 3, 1) := by decide +kernel
theorem dX6_loudest_14 : decode cX6_loudest 14 = .ok (.iconst 0, 1) := by decide +kernel
theorem dX6_loudest_15 : decode cX6_loudest 15 = .ok (.istore 4, 2) := by decide +kernel
theorem dX6_loudest_17 : decode cX6_loudest 17 = .ok (.iload 4, 2) := by decide +kernel
theorem dX6_loudest_19 : decode cX6_loudest 19 = .ok (.aload_n 0, 1) := by decide +kernel
theorem dX6_loudest_20 : decode cX6_loudest 20 = .ok (.getfield 7, 3) := by decide +kernel
theorem dX6_loudest_23 : decode cX6_loudest 23 = .ok (.bipush 13, 2) := by decide +kernel
theorem dX6_loudest_25 : decode cX6_loudest 25 = .ok (.iaload, 1) := by decide +kernel
theorem dX6_loudest_26 : decode cX6_loudest 26 = .ok (.if_icmp .ge 82, 3) := by decide +kernel
theorem dX6_loudest_29 : decode cX6_loudest 29 = .ok (.iconst 0, 1) := by decide +kernel
theorem dX6_loudest_30 : decode cX6_loudest 30 = .ok (.istore 5, 2) := by decide +kernel
theorem dX6_loudest_32 : decode cX6_loudest 32 = .ok (.iconst 0, 1) := by decide +kernel
theorem dX6_loudest_33 : decode cX6_loudest 33 = .ok (.istore 6, 2) := by decide +kernel
theorem dX6_loudest_35 : decode cX6_loudest 35 = .ok (.iload 6, 2) := by decide +kernel
theorem dX6_loudest_37 : decode cX6_loudest 37 = .ok (.aload_n 0, 1) := by decide +kernel
theorem dX6_loudest_38 : decode cX6_loudest 38 = .ok (.getfield 7, 3) := by decide +kernel
theorem dX6_loudest_41 : decode cX6_loudest 41 = .ok (.iconst 0, 1) := by decide +kernel
theorem dX6_loudest_42 : decode cX6_loudest 42 = .ok (.iaload, 1) := by decide +kernel
theorem dX6_loudest_43 : decode cX6_loudest 43 = .ok (.if_icmp .ge 33, 3) := by decide +kernel
theorem dX6_loudest_46 : decode cX6_loudest 46 = .ok (.iload 5, 2) := by decide +kernel
theorem dX6_loudest_48 : decode cX6_loudest 48 = .ok (.aload_n 0, 1) := by decide +kernel
theorem dX6_loudest_49 : decode cX6_loudest 49 = .ok (.iload 6, 2) := by decide +kernel
theorem dX6_loudest_51 : decode cX6_loudest 51 = .ok (.aload_n 0, 1) := by decide +kernel
theorem dX6_loudest_52 : decode cX6_loudest 52 = .ok (.getfield 7, 3) := by decide +kernel
theorem dX6_loudest_55 : decode cX6_loudest 55 = .ok (.iconst 0, 1) := by decide +kernel
theorem dX6_loudest_56 : decode cX6_loudest 56 = .ok (.iload 4, 2) := by decide +kernel
theorem dX6_loudest_58 : decode cX6_loudest 58 = .ok (.iconst 0, 1) := by decide +kernel
theorem dX6_loudest_59 : decode cX6_loudest 59 = .ok (.invokestatic 61, 3) := by decide +kernel
theorem dX6_loudest_62 : decode cX6_loudest 62 = .ok (.iaload, 1) := by decide +kernel
theorem dX6_loudest_63 : decode cX6_loudest 63 = .ok (.iload_n 1, 1) := by decide +kernel
theorem dX6_loudest_64 : decode cX6_loudest 64 = .ok (.invokevirtual 216, 3) := by decide +kernel
theorem dX6_loudest_67 : decode cX6_loudest 67 = .ok (.iadd, 1) := by decide +kernel
theorem dX6_loudest_68 : decode cX6_loudest 68 = .ok (.istore 5, 2) := by decide +kernel
theorem dX6_loudest_70 : decode cX6_loudest 70 = .ok (.iinc 6 1, 3) := by decide +kernel
theorem dX6_loudest_73 : decode cX6_loudest 73 = .ok (.goto (-38), 3) := by decide +kernel
theorem dX6_loudest_76 : decode cX6_loudest 76 = .ok (.iload 5, 2) := by decide +kernel
theorem dX6_loudest_78 : decode cX6_loudest 78 = .ok (.iload_n 3, 1) := by decide +kernel
theorem dX6_loudest_79 : decode cX6_loudest 79 = .ok (.if_icmp .le 8, 3) := by decide +kernel
theorem dX6_loudest_82 : decode cX6_loudest 82 = .ok (.iload 4, 2) := by decide +kernel
theorem dX6_loudest_84 : decode cX6_loudest 84 = .ok (.goto 4, 3) := by decide +kernel
theorem dX6_loudest_87 : decode cX6_loudest 87 = .ok (.iload_n 2, 1) := by decide +kernel
theorem dX6_loudest_88 : decode cX6_loudest 88 = .ok (.istore_n 2, 1) := by decide +kernel
theorem dX6_loudest_89 : decode cX6_loudest 89 = .ok (.iload 5, 2) := by decide +kernel
theorem dX6_loudest_91 : decode cX6_loudest 91 = .ok (.iload_n 3, 1) := by decide +kernel
theorem dX6_loudest_92 : decode cX6_loudest 92 = .ok (.if_icmp .le 8, 3) := by decide +kernel
theorem dX6_loudest_95 : decode cX6_loudest 95 = .ok (.iload 5, 2) := by decide +kernel
theorem dX6_loudest_97 : decode cX6_loudest 97 = .ok (.goto 4, 3) := by decide +kernel
theorem dX6_loudest_100 : decode cX6_loudest 100 = .ok (.iload_n 3, 1) := by decide +kernel
theorem dX6_loudest_101 : decode cX6_loudest 101 = .ok (.istore_n 3, 1) := by decide +kernel
theorem dX6_loudest_102 : decode cX6_loudest 102 = .ok (.iinc 4 1, 3) := by decide +kernel
theorem dX6_loudest_105 : decode cX6_loudest 105 = .ok (.goto (-88), 3) := by decide +kernel
theorem dX6_loudest_108 : decode cX6_loudest 108 = .ok (.iload_n 2, 1) := by decide +kernel
theorem dX6_loudest_109 : decode cX6_loudest 109 = .ok (.ireturn, 1) := by decide +kernel
set_option maxRecDepth 20000 in
theorem ggX6_bestTied_X6_isMill : GoodIn wsX6_bestTied wsX6_isMill := goodIn_r _ [6, 1, 7, 8, 5, 9, 68, 69, 70, 71, 72, 73, 74] (by decide +kernel) (by decide +kernel)
set_option maxRecDepth 20000 in
theorem gX6_bestTied_X6_isMill : GoodIn wsX6_bestTied (wsV RX6 89 RX6 yX6_isMill wsX6_isMill) := goodIn_app (goodIn_of _ (by decide +kernel)) ggX6_bestTied_X6_isMill
set_option maxRecDepth 20000 in
theorem ggX6_bestTied_X6_turns : GoodIn wsX6_bestTied wsX6_turns := goodIn_r _ [13, 1, 14, 15, 16, 5, 17, 18, 19, 20, 68, 69, 70, 71, 72, 73, 74] (by decide +kernel) (by decide +kernel)
set_option maxRecDepth 20000 in
theorem gX6_bestTied_X6_turns : GoodIn wsX6_bestTied (wsV RX6 198 RX6 yX6_turns wsX6_turns) := goodIn_app (goodIn_of _ (by decide +kernel)) ggX6_bestTied_X6_turns
set_option maxRecDepth 20000 in
theorem ggX6_bestTied_X6_troubles : GoodIn wsX6_bestTied wsX6_troubles := goodIn_r _ [24, 1, 25, 26, 27, 5, 28, 29, 30, 31, 32, 33, 34, 35, 36, 37, 38, 39, 40, 41, 42, 43, 18, 19, 20, 44, 45, 46, 47, 48, 49, 50, 51, 52, 53, 54, 55, 56, 57, 58, 59, 60, 61, 7, 8, 9, 62, 63, 64, 65, 66, 67, 68, 69, 70, 71, 72, 73, 74] (by decide +kernel) (by decide +kernel)
set_option maxRecDepth 20000 in
theorem gX6_bestTied_X6_troubles : GoodIn wsX6_bestTied (wsV RX6 225 RX6 yX6_troubles wsX6_troubles) := goodIn_app (goodIn_of _ (by decide +kernel)) ggX6_bestTied_X6_troubles
theorem dX6_bestTied_0 : decode cX6_bestTied 0 = .ok (.aload_n 0, 1) := by decide +kernel
theorem dX6_bestTied_1 : decode cX6_bestTied 1 = .ok (.iconst 0, 1) := by decide +kernel
theorem dX6_bestTied_2 : decode cX6_bestTied 2 = .ok (.iload_n 1, 1) := by decide +kernel
theorem dX6_bestTied_3 : decode cX6_bestTied 3 = .ok (.invokevirtual 89, 3) := by decide +kernel
theorem dX6_bestTied_6 : decode cX6_bestTied 6 = .ok (.ifCond .ne 5, 3) := by decide +kernel
theorem dX6_bestTied_9 : decode cX6_bestTied 9 = .ok (.iconst (-1), 1) := by decide +kernel
theorem dX6_bestTied_10 : decode cX6_bestTied 10 = .ok (.ireturn, 1) := by decide +kernel
theorem dX6_bestTied_11 : decode cX6_bestTied 11 = .ok (.bipush (-5), 2) := by decide +kernel
theorem dX6_bestTied_13 : decode cX6_bestTied 13 = .ok (.istore_n 2, 1) := by decide +kernel
theorem dX6_bestTied_14 : decode cX6_bestTied 14 = .ok (.iconst 0, 1) := by decide +kernel
theorem dX6_bestTied_15 : decode cX6_bestTied 15 = .ok (.istore_n 3, 1) := by decide +kernel
theorem dX6_bestTied_16 : decode cX6_bestTied 16 = .ok (.iconst 0, 1) := by decide +kernel
theorem dX6_bestTied_17 : decode cX6_bestTied 17 = .ok (.istore 4, 2) := by decide +kernel
theorem dX6_bestTied_19 : decode cX6_bestTied 19 = .ok (.iload 4, 2) := by decide +kernel
theorem dX6_bestTied_21 : decode cX6_bestTied 21 = .ok (.bipush 24, 2) := by decide +kernel
theorem dX6_bestTied_23 : decode cX6_bestTied 23 = .ok (.if_icmp .ge 105, 3) := by decide +kernel
theorem dX6_bestTied_26 : decode cX6_bestTied 26 = .ok (.aload_n 0, 1) := by decide +kernel
theorem dX6_bestTied_27 : decode cX6_bestTied 27 = .ok (.iconst 0, 1) := by decide +kernel
theorem dX6_bestTied_28 : decode cX6_bestTied 28 = .ok (.iload_n 1, 1) := by decide +kernel
theorem dX6_bestTied_29 : decode cX6_bestTied 29 = .ok (.iload 4, 2) := by decide +kernel
theorem dX6_bestTied_31 : decode cX6_bestTied 31 = .ok (.invokevirtual 198, 3) := by decide +kernel
theorem dX6_bestTied_34 : decode cX6_bestTied 34 = .ok (.ifCond .eq 13, 3) := by decide +kernel
theorem dX6_bestTied_37 : decode cX6_bestTied 37 = .ok (.aload_n 0, 1) := by decide +kernel
theorem dX6_bestTied_38 : decode cX6_bestTied 38 = .ok (.iload_n 1, 1) := by decide +kernel
theorem dX6_bestTied_39 : decode cX6_bestTied 39 = .ok (.iload 4, 2) := by decide +kernel
theorem dX6_bestTied_41 : decode cX6_bestTied 41 = .ok (.invokevirtual 225, 3) := by decide +kernel
theorem dX6_bestTied_44 : decode cX6_bestTied 44 = .ok (.goto 4, 3) := by decide +kernel
theorem dX6_bestTied_47 : decode cX6_bestTied 47 = .ok (.iconst 0, 1) := by decide +kernel
theorem dX6_bestTied_48 : decode cX6_bestTied 48 = .ok (.istore 5, 2) := by decide +kernel
theorem dX6_bestTied_50 : decode cX6_bestTied 50 = .ok (.iload_n 2, 1) := by decide +kernel
theorem dX6_bestTied_51 : decode cX6_bestTied 51 = .ok (.bipush (-5), 2) := by decide +kernel
theorem dX6_bestTied_53 : decode cX6_bestTied 53 = .ok (.if_icmp .eq 35, 3) := by decide +kernel
theorem dX6_bestTied_56 : decode cX6_bestTied 56 = .ok (.iload 5, 2) := by decide +kernel
theorem dX6_bestTied_58 : decode cX6_bestTied 58 = .ok (.iload_n 3, 1) := by decide +kernel
theorem dX6_bestTied_59 : decode cX6_bestTied 59 = .ok (.if_icmp .ne 29, 3) := by decide +kernel
theorem dX6_bestTied_62 : decode cX6_bestTied 62 = .ok (.aload_n 0, 1) := by decide +kernel
theorem dX6_bestTied_63 : decode cX6_bestTied 63 = .ok (.getfield 7, 3) := by decide +kernel
theorem dX6_bestTied_66 : decode cX6_bestTied 66 = .ok (.bipush 34, 2) := by decide +kernel
theorem dX6_bestTied_68 : decode cX6_bestTied 68 = .ok (.iload 4, 2) := by decide +kernel
theorem dX6_bestTied_70 : decode cX6_bestTied 70 = .ok (.iadd, 1) := by decide +kernel
theorem dX6_bestTied_71 : decode cX6_bestTied 71 = .ok (.iaload, 1) := by decide +kernel
theorem dX6_bestTied_72 : decode cX6_bestTied 72 = .ok (.aload_n 0, 1) := by decide +kernel
theorem dX6_bestTied_73 : decode cX6_bestTied 73 = .ok (.getfield 7, 3) := by decide +kernel
theorem dX6_bestTied_76 : decode cX6_bestTied 76 = .ok (.bipush 34, 2) := by decide +kernel
theorem dX6_bestTied_78 : decode cX6_bestTied 78 = .ok (.iload_n 2, 1) := by decide +kernel
theorem dX6_bestTied_79 : decode cX6_bestTied 79 = .ok (.iadd, 1) := by decide +kernel
theorem dX6_bestTied_80 : decode cX6_bestTied 80 = .ok (.iaload, 1) := by decide +kernel
theorem dX6_bestTied_81 : decode cX6_bestTied 81 = .ok (.if_icmp .ge 7, 3) := by decide +kernel
theorem dX6_bestTied_84 : decode cX6_bestTied 84 = .ok (.iconst 1, 1) := by decide +kernel
theorem dX6_bestTied_85 : decode cX6_bestTied 85 = .ok (.goto 4, 3) := by decide +kernel
theorem dX6_bestTied_88 : decode cX6_bestTied 88 = .ok (.iconst 0, 1) := by decide +kernel
theorem dX6_bestTied_89 : decode cX6_bestTied 89 = .ok (.istore 6, 2) := by decide +kernel
theorem dX6_bestTied_91 : decode cX6_bestTied 91 = .ok (.iload 5, 2) := by decide +kernel
theorem dX6_bestTied_93 : decode cX6_bestTied 93 = .ok (.iload_n 3, 1) := by decide +kernel
theorem dX6_bestTied_94 : decode cX6_bestTied 94 = .ok (.if_icmp .gt 8, 3) := by decide +kernel
theorem dX6_bestTied_97 : decode cX6_bestTied 97 = .ok (.iload 6, 2) := by decide +kernel
theorem dX6_bestTied_99 : decode cX6_bestTied 99 = .ok (.ifCond .eq 8, 3) := by decide +kernel
theorem dX6_bestTied_102 : decode cX6_bestTied 102 = .ok (.iload 4, 2) := by decide +kernel
theorem dX6_bestTied_104 : decode cX6_bestTied 104 = .ok (.goto 4, 3) := by decide +kernel
theorem dX6_bestTied_107 : decode cX6_bestTied 107 = .ok (.iload_n 2, 1) := by decide +kernel
theorem dX6_bestTied_108 : decode cX6_bestTied 108 = .ok (.istore_n 2, 1) := by decide +kernel
theorem dX6_bestTied_109 : decode cX6_bestTied 109 = .ok (.iload 5, 2) := by decide +kernel
theorem dX6_bestTied_111 : decode cX6_bestTied 111 = .ok (.iload_n 3, 1) := by decide +kernel
theorem dX6_bestTied_112 : decode cX6_bestTied 112 = .ok (.if_icmp .le 8, 3) := by decide +kernel
theorem dX6_bestTied_115 : decode cX6_bestTied 115 = .ok (.iload 5, 2) := by decide +kernel
theorem dX6_bestTied_117 : decode cX6_bestTied 117 = .ok (.goto 4, 3) := by decide +kernel
theorem dX6_bestTied_120 : decode cX6_bestTied 120 = .ok (.iload_n 3, 1) := by decide +kernel
theorem dX6_bestTied_121 : decode cX6_bestTied 121 = .ok (.istore_n 3, 1) := by decide +kernel
theorem dX6_bestTied_122 : decode cX6_bestTied 122 = .ok (.iinc 4 1, 3) := by decide +kernel
theorem dX6_bestTied_125 : decode cX6_bestTied 125 = .ok (.goto (-106), 3) := by decide +kernel
theorem dX6_bestTied_128 : decode cX6_bestTied 128 = .ok (.iload_n 2, 1) := by decide +kernel
theorem dX6_bestTied_129 : decode cX6_bestTied 129 = .ok (.ireturn, 1) := by decide +kernel
set_option maxRecDepth 20000 in
theorem ggX6_ifVoted_X6_isMill : GoodIn wsX6_ifVoted wsX6_isMill := goodIn_r _ [5, 6, 7, 8, 4, 9, 59, 60, 61, 62, 63, 64, 65] (by decide +kernel) (by decide +kernel)
set_option maxRecDepth 20000 in
theorem gX6_ifVoted_X6_isMill : GoodIn wsX6_ifVoted (wsV RX6 89 RX6 yX6_isMill wsX6_isMill) := goodIn_app (goodIn_of _ (by decide +kernel)) ggX6_ifVoted_X6_isMill
set_option maxRecDepth 20000 in
theorem ggX6_ifVoted_X6_isHour : GoodIn wsX6_ifVoted wsX6_isHour := goodIn_r _ [12, 7, 8, 4, 9] (by decide +kernel) (by decide +kernel)
set_option maxRecDepth 20000 in
theorem gX6_ifVoted_X6_isHour : GoodIn wsX6_ifVoted (va_wsS RX6 82 yX6_isHour wsX6_isHour) := goodIn_app (goodIn_of _ (by decide +kernel)) ggX6_ifVoted_X6_isHour
set_option maxRecDepth 20000 in
theorem ggX6_ifVoted_X6_votes : GoodIn wsX6_ifVoted wsX6_votes := goodIn_r _ [16, 6, 17, 18, 19, 4, 20, 21, 22, 23, 24, 25, 26, 27, 28, 29, 30, 31, 32, 33, 34, 35, 36, 37, 38, 39, 40, 41, 42, 43, 44, 45, 46, 47, 48, 49, 50, 51, 52, 7, 8, 9, 53, 54, 55, 56, 57, 58, 59, 60, 61, 62, 63, 64, 65] (by decide +kernel) (by decide +kernel)
set_option maxRecDepth 20000 in
theorem gX6_ifVoted_X6_votes : GoodIn wsX6_ifVoted (wsV RX6 124 RX6 yX6_votes wsX6_votes) := goodIn_app (goodIn_of _ (by decide +kernel)) ggX6_ifVoted_X6_votes
theorem dX6_ifVoted_0 : decode cX6_ifVoted 0 = .ok (.aload_n 0, 1) := by decide +kernel
theorem dX6_ifVoted_1 : decode cX6_ifVoted 1 = .ok (.iconst 0, 1) := by decide +kernel
theorem dX6_ifVoted_2 : decode cX6_ifVoted 2 = .ok (.iload_n 1, 1) := by decide +kernel
theorem dX6_ifVoted_3 : decode cX6_ifVoted 3 = .ok (.invokevirtual 89, 3) := by decide +kernel
theorem dX6_ifVoted_6 : decode cX6_ifVoted 6 = .ok (.ifCond .eq 19, 3) := by decide +kernel
theorem dX6_ifVoted_9 : decode cX6_ifVoted 9 = .ok (.iload_n 2, 1) := by decide +kernel
theorem dX6_ifVoted_10 : decode cX6_ifVoted 10 = .ok (.invokestatic 82, 3) := by decide +kernel
theorem dX6_ifVoted_13 : decode cX6_ifVoted 13 = .ok (.ifCond .eq 12, 3) := by decide +kernel
theorem dX6_ifVoted_16 : decode cX6_ifVoted 16 = .ok (.aload_n 0, 1) := by decide +kernel
theorem dX6_ifVoted_17 : decode cX6_ifVoted 17 = .ok (.iload_n 1, 1) := by decide +kernel
theorem dX6_ifVoted_18 : decode cX6_ifVoted 18 = .ok (.iload_n 2, 1) := by decide +kernel
theorem dX6_ifVoted_19 : decode cX6_ifVoted 19 = .ok (.invokevirtual 124, 3) := by decide +kernel
theorem dX6_ifVoted_22 : decode cX6_ifVoted 22 = .ok (.goto 4, 3) := by decide +kernel
theorem dX6_ifVoted_25 : decode cX6_ifVoted 25 = .ok (.iconst (-1), 1) := by decide +kernel
theorem dX6_ifVoted_26 : decode cX6_ifVoted 26 = .ok (.ireturn, 1) := by decide +kernel
