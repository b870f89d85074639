theorem dX4_bad_0 : decode cX4_bad 0 = .ok (.aload_n 0, 1) := by decide +kernel
theorem dX4_bad_1 : decode cX4_bad 1 = .ok (.getfield 1, 3) := by decide +kernel
theorem dX4_bad_4 : decode cX4_bad 4 = .ok (.iconst 0, 1) := by decide +kernel
theorem dX4_bad_5 : decode cX4_bad 5 = .ok (.dup2, 1) := by decide +kernel
theorem dX4_bad_6 : decode cX4_bad 6 = .ok (.iaload, 1) := by decide +kernel
theorem dX4_bad_7 : decode cX4_bad 7 = .ok (.iconst 1, 1) := by decide +kernel
theorem dX4_bad_8 : decode cX4_bad 8 = .ok (.iadd, 1) := by decide +kernel
theorem dX4_bad_9 : decode cX4_bad 9 = .ok (.iastore, 1) := by decide +kernel
theorem dX4_bad_10 : decode cX4_bad 10 = .ok (.bipush (-2), 2) := by decide +kernel
theorem dX4_bad_12 : decode cX4_bad 12 = .ok (.ireturn, 1) := by decide +kernel
theorem dX4_ten_0 : decode cX4_ten 0 = .ok (.aload_n 0, 1) := by decide +kernel
theorem dX4_ten_1 : decode cX4_ten 1 = .ok (.getfield 1, 3) := by decide +kernel
theorem dX4_ten_4 : decode cX4_ten 4 = .ok (.iconst 0, 1) := by decide +kernel
theorem dX4_ten_5 : decode cX4_ten 5 = .ok (.dup2, 1) := by decide +kernel
theorem dX4_ten_6 : decode cX4_ten 6 = .ok (.iaload, 1) := by decide +kernel
theorem dX4_ten_7 : decode cX4_ten 7 = .ok (.iconst 1, 1) := by decide +kernel
theorem dX4_ten_8 : decode cX4_ten 8 = .ok (.iadd, 1) := by decide +kernel
theorem dX4_ten_9 : decode cX4_ten 9 = .ok (.iastore, 1) := by decide +kernel
theorem dX4_ten_10 : decode cX4_ten 10 = .ok (.bipush (-10), 2) := by decide +kernel
theorem dX4_ten_12 : decode cX4_ten 12 = .ok (.ireturn, 1) := by decide +kernel
theorem dX4_no_0 : decode cX4_no 0 = .ok (.aload_n 0, 1) := by decide +kernel
theorem dX4_no_1 : decode cX4_no 1 = .ok (.getfield 1, 3) := by decide +kernel
theorem dX4_no_4 : decode cX4_no 4 = .ok (.iconst 1, 1) := by decide +kernel
theorem dX4_no_5 : decode cX4_no 5 = .ok (.dup2, 1) := by decide +kernel
theorem dX4_no_6 : decode cX4_no 6 = .ok (.iaload, 1) := by decide +kernel
theorem dX4_no_7 : decode cX4_no 7 = .ok (.iconst 1, 1) := by decide +kernel
theorem dX4_no_8 : decode cX4_no 8 = .ok (.iadd, 1) := by decide +kernel
theorem dX4_no_9 : decode cX4_no 9 = .ok (.iastore, 1) := by decide +kernel
theorem dX4_no_10 : decode cX4_no 10 = .ok (.bipush (-3), 2) := by decide +kernel
theorem dX4_no_12 : decode cX4_no 12 = .ok (.ireturn, 1) := by decide +kernel
theorem dX4_full_0 : decode cX4_full 0 = .ok (.aload_n 0, 1) := by decide +kernel
theorem dX4_full_1 : decode cX4_full 1 = .ok (.getfield 1, 3) := by decide +kernel
theorem dX4_full_4 : decode cX4_full 4 = .ok (.iconst 2, 1) := by decide +kernel
theorem dX4_full_5 : decode cX4_full 5 = .ok (.dup2, 1) := by decide +kernel
theorem dX4_full_6 : decode cX4_full 6 = .ok (.iaload, 1) := by decide +kernel
theorem dX4_full_7 : decode cX4_full 7 = .ok (.iconst 1, 1) := by decide +kernel
theorem dX4_full_8 : decode cX4_full 8 = .ok (.iadd, 1) := by decide +kernel
theorem dX4_full_9 : decode cX4_full 9 = .ok (.iastore, 1) := by decide +kernel
theorem dX4_full_10 : decode cX4_full 10 = .ok (.bipush (-4), 2) := by decide +kernel
theorem dX4_full_12 : decode cX4_full 12 = .ok (.ireturn, 1) := by decide +kernel
theorem dX4_in_0 : decode cX4_in 0 = .ok (.iload_n 0, 1) := by decide +kernel
theorem dX4_in_1 : decode cX4_in 1 = .ok (.iload_n 1, 1) := by decide +kernel
theorem dX4_in_2 : decode cX4_in 2 = .ok (.if_icmp .lt 12, 3) := by decide +kernel
theorem dX4_in_5 : decode cX4_in 5 = .ok (.iload_n 0, 1) := by decide +kernel
theorem dX4_in_6 : decode cX4_in 6 = .ok (.iload_n 2, 1) := by decide +kernel
theorem dX4_in_7 : decode cX4_in 7 = .ok (.if_icmp .gt 7, 3) := by decide +kernel
theorem dX4_in_10 : decode cX4_in 10 = .ok (.iconst 1, 1) := by decide +kernel
theorem dX4_in_11 : decode cX4_in 11 = .ok (.goto 4, 3) := by decide +kernel
theorem dX4_in_14 : decode cX4_in 14 = .ok (.iconst 0, 1) := by decide +kernel
theorem dX4_in_15 : decode cX4_in 15 = .ok (.ireturn, 1) := by decide +kernel
theorem dX4_has_0 : decode cX4_has 0 = .ok (.iload_n 0, 1) := by decide +kernel
theorem dX4_has_1 : decode cX4_has 1 = .ok (.iload_n 1, 1) := by decide +kernel
theorem dX4_has_2 : decode cX4_has 2 = .ok (.ishr, 1) := by decide +kernel
theorem dX4_has_3 : decode cX4_has 3 = .ok (.iconst 1, 1) := by decide +kernel
theorem dX4_has_4 : decode cX4_has 4 = .ok (.iand, 1) := by decide +kernel
theorem dX4_has_5 : decode cX4_has 5 = .ok (.iconst 1, 1) := by decide +kernel
theorem dX4_has_6 : decode cX4_has 6 = .ok (.if_icmp .ne 7, 3) := by decide +kernel
theorem dX4_has_9 : decode cX4_has 9 = .ok (.iconst 1, 1) := by decide +kernel
theorem dX4_has_10 : decode cX4_has 10 = .ok (.goto 4, 3) := by decide +kernel
theorem dX4_has_13 : decode cX4_has 13 = .ok (.iconst 0, 1) := by decide +kernel
theorem dX4_has_14 : decode cX4_has 14 = .ok (.ireturn, 1) := by decide +kernel
theorem dX4_lesser_0 : decode cX4_lesser 0 = .ok (.iload_n 0, 1) := by decide +kernel
theorem dX4_lesser_1 : decode cX4_lesser 1 = .ok (.iload_n 1, 1) := by decide +kernel
theorem dX4_lesser_2 : decode cX4_lesser 2 = .ok (.if_icmp .ge 7, 3) := by decide +kernel
theorem dX4_lesser_5 : decode cX4_lesser 5 = .ok (.iload_n 0, 1) := by decide +kernel
theorem dX4_lesser_6 : decode cX4_lesser 6 = .ok (.goto 4, 3) := by decide +kernel
theorem dX4_lesser_9 : decode cX4_lesser 9 = .ok (.iload_n 1, 1) := by decide +kernel
theorem dX4_lesser_10 : decode cX4_lesser 10 = .ok (.ireturn, 1) := by decide +kernel
set_option maxRecDepth 20000 in
theorem ggX4_init_X4_begin : GoodIn wsX4_init wsX4_begin := goodIn_r _ [27, 28, 29, 30, 31, 32, 6, 7, 33, 34, 35, 36, 37, 38, 39, 40, 41, 42, 43, 44, 45, 46, 47, 48, 49, 50, 51, 52, 53, 54, 55, 56, 57, 58, 59, 60, 61, 62] (by decide +kernel) (by decide +kernel)
set_option maxRecDepth 20000 in
theorem gX4_init_X4_begin : GoodIn wsX4_init (wsV RX4 65 RX4 yX4_begin wsX4_begin) := goodIn_app (goodIn_of _ (by decide +kernel)) ggX4_init_X4_begin
theorem dX4_init_0 : decode cX4_init 0 = .ok (.aload_n 0, 1) := by decide +kernel
theorem dX4_init_1 : decode cX4_init 1 = .ok (.invokespecial 7, 3) := by decide +kernel
theorem dX4_init_4 : decode cX4_init 4 = .ok (.aload_n 0, 1) := by decide +kernel
theorem dX4_init_5 : decode cX4_init 5 = .ok (.iconst 3, 1) := by decide +kernel
theorem dX4_init_6 : decode cX4_init 6 = .ok (.newarray .int, 2) := by decide +kernel
theorem dX4_init_8 : decode cX4_init 8 = .ok (.putfield 1, 3) := by decide +kernel
theorem dX4_init_11 : decode cX4_init 11 = .ok (.aload_n 0, 1) := by decide +kernel
theorem dX4_init_12 : decode cX4_init 12 = .ok (.bipush 12, 2) := by decide +kernel
theorem dX4_init_14 : decode cX4_init 14 = .ok (.newarray .int, 2) := by decide +kernel
theorem dX4_init_16 : decode cX4_init 16 = .ok (.putfield 13, 3) := by decide +kernel
theorem dX4_init_19 : decode cX4_init 19 = .ok (.aload_n 0, 1) := by decide +kernel
theorem dX4_init_20 : decode cX4_init 20 = .ok (.bipush 12, 2) := by decide +kernel
theorem dX4_init_22 : decode cX4_init 22 = .ok (.newarray .int, 2) := by decide +kernel
theorem dX4_init_24 : decode cX4_init 24 = .ok (.putfield 16, 3) := by decide +kernel
theorem dX4_init_27 : decode cX4_init 27 = .ok (.aload_n 0, 1) := by decide +kernel
theorem dX4_init_28 : decode cX4_init 28 = .ok (.iconst 5, 1) := by decide +kernel
theorem dX4_init_29 : decode cX4_init 29 = .ok (.newarray .int, 2) := by decide +kernel
theorem dX4_init_31 : decode cX4_init 31 = .ok (.putfield 19, 3) := by decide +kernel
theorem dX4_init_34 : decode cX4_init 34 = .ok (.aload_n 0, 1) := by decide +kernel
theorem dX4_init_35 : decode cX4_init 35 = .ok (.iconst 5, 1) := by decide +kernel
theorem dX4_init_36 : decode cX4_init 36 = .ok (.newarray .int, 2) := by decide +kernel
theorem dX4_init_38 : decode cX4_init 38 = .ok (.putfield 22, 3) := by decide +kernel
theorem dX4_init_41 : decode cX4_init 41 = .ok (.aload_n 0, 1) := by decide +kernel
theorem dX4_init_42 : decode cX4_init 42 = .ok (.iconst 5, 1) := by decide +kernel
theorem dX4_init_43 : decode cX4_init 43 = .ok (.newarray .int, 2) := by decide +kernel
theorem dX4_init_45 : decode cX4_init 45 = .ok (.putfield 25, 3) := by decide +kernel
theorem dX4_init_48 : decode cX4_init 48 = .ok (.aload_n 0, 1) := by decide +kernel
theorem dX4_init_49 : decode cX4_init 49 = .ok (.iconst 4, 1) := by decide +kernel
theorem dX4_init_50 : decode cX4_init 50 = .ok (.newarray .int, 2) := by decide +kernel
theorem dX4_init_52 : decode cX4_init 52 = .ok (.putfield 28, 3) := by decide +kernel
theorem dX4_init_55 : decode cX4_init 55 = .ok (.aload_n 0, 1) := by decide +kernel
theorem dX4_init_56 : decode cX4_init 56 = .ok (.iconst 4, 1) := by decide +kernel
theorem dX4_init_57 : decode cX4_init 57 = .ok (.newarray .int, 2) := by decide +kernel
theorem dX4_init_59 : decode cX4_init 59 = .ok (.putfield 31, 3) := by decide +kernel
theorem dX4_init_62 : decode cX4_init 62 = .ok (.aload_n 0, 1) := by decide +kernel
theorem dX4_init_63 : decode cX4_init 63 = .ok (.iconst 4, 1) := by decide +kernel
theorem dX4_init_64 : decode cX4_init 64 = .ok (.newarray .int, 2) := by decide +kernel
theorem dX4_init_66 : decode cX4_init 66 = .ok (.putfield 34, 3) := by decide +kernel
theorem dX4_init_69 : decode cX4_init 69 = .ok (.aload_n 0, 1) := by decide +kernel
theorem dX4_init_70 : decode cX4_init 70 = .ok (.bipush 42, 2) := by decide +kernel
theorem dX4_init_72 : decode cX4_init 72 = .ok (.newarray .int, 2) := by decide +kernel
theorem dX4_init_74 : decode cX4_init 74 = .ok (.putfield 37, 3) := by decide +kernel
theorem dX4_init_77 : decode cX4_init 77 = .ok (.aload_n 0, 1) := by decide +kernel
theorem dX4_init_78 : decode cX4_init 78 = .ok (.sipush 150, 3) := by decide +kernel
theorem dX4_init_81 : decode cX4_init 81 = .ok (.newarray .int, 2) := by decide +kernel
theorem dX4_init_83 : decode cX4_init 83 = .ok (.putfield 40, 3) := by decide +kernel
theorem dX4_init_86 : decode cX4_init 86 = .ok (.aload_n 0, 1) := by decide +kernel
theorem dX4_init_87 : decode cX4_init 87 = .ok (.bipush 15, 2) := by decide +kernel
theorem dX4_init_89 : decode cX4_init 89 = .ok (.newarray .int, 2) := by decide +kernel
theorem dX4_init_91 : decode cX4_init 91 = .ok (.putfield 43, 3) := by decide +kernel
theorem dX4_init_94 : decode cX4_init 94 = .ok (.aload_n 0, 1) := by decide +kernel
theorem dX4_init_95 : decode cX4_init 95 = .ok (.bipush 24, 2) := by decide +kernel
theorem dX4_init_97 : decode cX4_init 97 = .ok (.newarray .int, 2) := by decide +kernel
theorem dX4_init_99 : decode cX4_init 99 = .ok (.putfield 46, 3) := by decide +kernel
theorem dX4_init_102 : decode cX4_init 102 = .ok (.aload_n 0, 1) := by decide +kernel
theorem dX4_init_103 : decode cX4_init 103 = .ok (.bipush 88, 2) := by decide +kernel
theorem dX4_init_105 : decode cX4_init 105 = .ok (.newarray .int, 2) := by decide +kernel
theorem dX4_init_107 : decode cX4_init 107 = .ok (.putfield 49, 3) := by decide +kernel
theorem dX4_init_110 : decode cX4_init 110 = .ok (.aload_n 0, 1) := by decide +kernel
theorem dX4_init_111 : decode cX4_init 111 = .ok (.bipush 11, 2) := by decide +kernel
theorem dX4_init_113 : decode cX4_init 113 = .ok (.newarray .int, 2) := by decide +kernel
theorem dX4_init_115 : decode cX4_init 115 = .ok (.putfield 52, 3) := by decide +kernel
theorem dX4_init_118 : decode cX4_init 118 = .ok (.aload_n 0, 1) := by decide +kernel
theorem dX4_init_119 : decode cX4_init 119 = .ok (.lconst 1, 1) := by decide +kernel
theorem dX4_init_120 : decode cX4_init 120 = .ok (.putfield 55, 3) := by decide +kernel
theorem dX4_init_123 : decode cX4_init 123 = .ok (.aload_n 0, 1) := by decide +kernel
theorem dX4_init_124 : decode cX4_init 124 = .ok (.sipush 400, 3) := by decide +kernel
theorem dX4_init_127 : decode cX4_init 127 = .ok (.newarray .int, 2) := by decide +kernel
theorem dX4_init_129 : decode cX4_init 129 = .ok (.putfield 59, 3) := by decide +kernel
theorem dX4_init_132 : decode cX4_init 132 = .ok (.aload_n 0, 1) := by decide +kernel
theorem dX4_init_133 : decode cX4_init 133 = .ok (.iconst 2, 1) := by decide +kernel
theorem dX4_init_134 : decode cX4_init 134 = .ok (.newarray .int, 2) := by decide +kernel
theorem dX4_init_136 : decode cX4_init 136 = .ok (.putfield 62, 3) := by decide +kernel
theorem dX4_init_139 : decode cX4_init 139 = .ok (.aload_n 0, 1) := by decide +kernel
theorem dX4_init_140 : decode cX4_init 140 = .ok (.iconst 0, 1) := by decide +kernel
theorem dX4_init_141 : decode cX4_init 141 = .ok (.invokevirtual 65, 3) := by decide +kernel
theorem dX4_init_144 : decode cX4_init 144 = .ok (.return_, 1) := by decide +kernel
theorem dX4_begin_0 : decode cX4_begin 0 = .ok (.aload_n 0, 1) := by decide +kernel
theorem dX4_begin_1 : decode cX4_begin 1 = .ok (.iload_n 1, 1) := by decide +kernel
theorem dX4_begin_2 : decode cX4_begin 2 = .ok (.putfield 69, 3) := by decide +kernel
theorem dX4_begin_5 : decode cX4_begin 5 = .ok (.aload_n 0, 1) := by decide +kernel
theorem dX4_begin_6 : decode cX4_begin 6 = .ok (.iconst 0, 1) := by decide +kernel
theorem dX4_begin_7 : decode cX4_begin 7 = .ok (.putfield 73, 3) := by decide +kernel
theorem dX4_begin_10 : decode cX4_begin 10 = .ok (.aload_n 0, 1) := by decide +kernel
theorem dX4_begin_11 : decode cX4_begin 11 = .ok (.iconst 0, 1) := by decide +kernel
theorem dX4_begin_12 : decode cX4_begin 12 = .ok (.putfield 76, 3) := by decide +kernel
theorem dX4_begin_15 : decode cX4_begin 15 = .ok (.aload_n 0, 1) := by decide +kernel
theorem dX4_begin_16 : decode cX4_begin 16 = .ok (.iconst 0, 1) := by decide +kernel
theorem dX4_begin_17 : decode cX4_begin 17 = .ok (.putfield 79, 3) := by decide +kernel
theorem dX4_begin_20 : decode cX4_begin 20 = .ok (.aload_n 0, 1) := by decide +kernel
theorem dX4_begin_21 : decode cX4_begin 21 = .ok (.iconst 0, 1) := by decide +kernel
theorem dX4_begin_22 : decode cX4_begin 22 = .ok (.putfield 82, 3) := by decide +kernel
theorem dX4_begin_25 : decode cX4_begin 25 = .ok (.iconst 0, 1) := by decide +kernel
theorem dX4_begin_26 : decode cX4_begin 26 = .ok (.istore_n 2, 1) := by decide +kernel
theorem dX4_begin_27 : decode cX4_begin 27 = .ok (.iload_n 2, 1) := by decide +kernel
theorem dX4_begin_28 : decode cX4_begin 28 = .ok (.bipush 12, 2) := by decide +kernel
theorem dX4_begin_30 : decode cX4_begin 30 = .ok (.if_icmp .ge 23, 3) := by decide +kernel
theorem dX4_begin_33 : decode cX4_begin 33 = .ok (.aload_n 0, 1) := by decide +kernel
theorem dX4_begin_34 : decode cX4_begin 34 = .ok (.getfield 13, 3) := by decide +kernel
theorem dX4_begin_37 : decode cX4_begin 37 = .ok (.iload_n 2, 1) := by decide +kernel
theorem dX4_begin_38 : decode cX4_begin 38 = .ok (.iconst 0, 1) := by decide +kernel
theorem dX4_begin_39 : decode cX4_begin 39 = .ok (.iastore, 1) := by decide +kernel
theorem dX4_begin_40 : decode cX4_begin 40 = .ok (.aload_n 0, 1) := by decide +kernel
theorem dX4_begin_41 : decode cX4_begin 41 = .ok (.getfield 16, 3) := by decide +kernel
theorem dX4_begin_44 : decode cX4_begin 44 = .ok (.iload_n 2, 1) := by decide +kernel
theorem dX4_begin_45 : decode cX4_begin 45 = .ok (.iconst 1, 1) := by decide +kernel
theorem dX4_begin_46 : decode cX4_begin 46 = .ok (.iastore, 1) := by decide +kernel
theorem dX4_begin_47 : decode cX4_begin 47 = .ok (.iinc 2 1, 3) := by decide +kernel
theorem dX4_begin_50 : decode cX4_begin 50 = .ok (.goto (-23), 3) := by decide +kernel
theorem dX4_begin_53 : decode cX4_begin 53 = .ok (.return_, 1) := by decide +kernel
set_option maxRecDepth 20000 in
theorem ggX4_isFloe_X4_in : GoodIn wsX4_isFloe wsX4_in := goodIn_r _ [5] (by decide +kernel) (by decide +kernel)
set_option maxRecDepth 20000 in
theorem gX4_isFloe_X4_in : GoodIn wsX4_isFloe (va_wsS RX4 85 yX4_in wsX4_in) := goodIn_app (goodIn_of _ (by decide +kernel)) ggX4_isFloe_X4_in
theorem dX4_isFloe_0 : decode cX4_isFloe 0 = .ok (.iload_n 1, 1) := by decide +kernel
theorem dX4_isFloe_1 : decode cX4_isFloe 1 = .ok (.iconst 0, 1) := by decide +kernel
theorem dX4_isFloe_2 : decode cX4_isFloe 2 = .ok (.aload_n 0, 1) := by decide +kernel
theorem dX4_isFloe_3 : decode cX4_isFloe 3 = .ok (.getfield 73, 3) := by decide +kernel
theorem dX4_isFloe_6 : decode cX4_isFloe 6 = .ok (.iconst 1, 1) := by decide +kernel
theorem dX4_isFloe_7 : decode cX4_isFloe 7 = .ok (.isub, 1) := by decide +kernel
theorem dX4_isFloe_8 : decode cX4_isFloe 8 = .ok (.invokestatic 85, 3) := by decide +kernel
theorem dX4_isFloe_11 : decode cX4_isFloe 11 = .ok (.ireturn, 1) := by decide +kernel
set_option maxRecDepth 20000 in
theorem ggX4_isCell_X4_in : GoodIn wsX4_isCell wsX4_in := goodIn_r _ [4] (by decide +kernel) (by decide +kernel)
set_option maxRecDepth 20000 in
theorem gX4_isCell_X4_in : GoodIn wsX4_isCell (va_wsS RX4 85 yX4_in wsX4_in) := goodIn_app (goodIn_of _ (by decide +kernel)) ggX4_isCell_X4_in
theorem dX4_isCell_0 : decode cX4_isCell 0 = .ok (.iload_n 0, 1) := by decide +kernel
theorem dX4_isCell_1 : decode cX4_isCell 1 = .ok (.iconst 0, 1) := by decide +kernel
theorem dX4_isCell_2 : decode cX4_isCell 2 = .ok (.bipush 35, 2) := by decide +kernel
theorem dX4_isCell_4 : decode cX4_isCell 4 = .ok (.invokestatic 85, 3) := by decide +kernel
theorem dX4_isCell_7 : decode cX4_isCell 7 = .ok (.ireturn, 1) := by decide +kernel
set_option maxRecDepth 20000 in
theorem ggX4_sea_X4_in : GoodIn wsX4_sea wsX4_in := goodIn_r _ [5] (by decide +kernel) (by decide +kernel)
set_option maxRecDepth 20000 in
theorem gX4_sea_X4_in : GoodIn wsX4_sea (va_wsS RX4 85 yX4_in wsX4_in) := goodIn_app (goodIn_of _ (by decide +kernel)) ggX4_sea_X4_in
set_option maxRecDepth 20000 in
theorem ggX4_sea_X4_bad : GoodIn wsX4_sea wsX4_bad := goodIn_r _ [9, 10, 21, 22, 23, 24, 25, 26, 27, 28, 29, 30, 31, 32, 33, 34, 35, 36, 37, 38, 39, 40, 41, 42, 43, 44, 45, 46, 47, 48, 49, 50] (by decide +kernel) (by decide +kernel)
set_option maxRecDepth 20000 in
theorem gX4_sea_X4_bad : GoodIn wsX4_sea (wsV RX4 89 RX4 yX4_bad wsX4_bad) := goodIn_app (goodIn_of _ (by decide +kernel)) ggX4_sea_X4_bad
set_option maxRecDepth 20000 in
theorem ggX4_sea_X4_begin : GoodIn wsX4_sea wsX4_begin := goodIn_r _ [14, 15, 1, 16, 17, 18, 19, 20, 21, 22, 23, 24, 25, 26, 27, 28, 29, 30, 31, 32, 33, 34, 35, 36, 37, 38, 39, 40, 41, 42, 43, 44, 45, 46, 47, 48, 49, 50] (by decide +kernel) (by decide +kernel)
set_option maxRecDepth 20000 in
theorem gX4_sea_X4_begin : GoodIn wsX4_sea (wsV RX4 65 RX4 yX4_begin wsX4_begin) := goodIn_app (goodIn_of _ (by decide +kernel)) ggX4_sea_X4_begin
theorem dX4_sea_0 : decode cX4_sea 0 = .ok (.iload_n 1, 1) := by decide +kernel
theorem dX4_sea_1 : decode cX4_sea 1 = .ok (.iconst 0, 1) := by decide +kernel
theorem dX4_sea_2 : decode cX4_sea 2 = .ok (.bipush 99, 2) := by decide +kernel
theorem dX4_sea_4 : decode cX4_sea 4 = .ok (.invokestatic 85, 3) := by decide +kernel
theorem dX4_sea_7 : decode cX4_sea 7 = .ok (.ifCond .ne 8, 3) := by decide +kernel
theorem dX4_sea_10 : decode cX4_sea 10 = .ok (.aload_n 0, 1) := by decide +kernel
theorem dX4_sea_11 : decode cX4_sea 11 = .ok (.invokevirtual 89, 3) := by decide +kernel
theorem dX4_sea_14 : decode cX4_sea 14 = .ok (.ireturn, 1) := by decide +kernel
theorem dX4_sea_15 : decode cX4_sea 15 = .ok (.aload_n 0, 1) := by decide +kernel
theorem dX4_sea_16 : decode cX4_sea 16 = .ok (.getfield 73, 3) := by decide +kernel
theorem dX4_sea_19 : decode cX4_sea 19 = .ok (.istore_n 2, 1) := by decide +kernel
theorem dX4_sea_20 : decode cX4_sea 20 = .ok (.aload_n 0, 1) := by decide +kernel
theorem dX4_sea_21 : decode cX4_sea 21 = .ok (.iload_n 1, 1) := by decide +kernel
theorem dX4_sea_22 : decode cX4_sea 22 = .ok (.invokevirtual 65, 3) := by decide +kernel
theorem dX4_sea_25 : decode cX4_sea 25 = .ok (.iload_n 2, 1) := by decide +kernel
theorem dX4_sea_26 : decode cX4_sea 26 = .ok (.ireturn, 1) := by decide +kernel
set_option maxRecDepth 20000 in
theorem ggX4_wind_X4_in : GoodIn wsX4_wind wsX4_in := goodIn_r _ [7] (by decide +kernel) (by decide +kernel)
set_option maxRecDepth 20000 in
theorem gX4_wind_X4_in : GoodIn wsX4_wind (va_wsS RX4 85 yX4_in wsX4_in) := goodIn_app (goodIn_of _ (by decide +kernel)) ggX4_wind_X4_in
set_option maxRecDepth 20000 in
theorem ggX4_wind_X4_bad : GoodIn wsX4_wind wsX4_bad := goodIn_r _ [11, 12, 13, 14, 15, 16, 17, 18, 19, 20, 21, 22, 23, 24, 25, 26, 27, 28, 29, 30, 31, 32, 33, 34, 35, 36, 37, 38, 39, 40, 41, 42] (by decide +kernel) (by decide +kernel)
set_option maxRecDepth 20000 in
theorem gX4_wind_X4_bad : GoodIn wsX4_wind (wsV RX4 89 RX4 yX4_bad wsX4_bad) := goodIn_app (goodIn_of _ (by decide +kernel)) ggX4_wind_X4_bad
theorem dX4_wind_0 : decode cX4_wind 0 = .ok (.iload_n 1, 1) := by decide +kernel
theorem dX4_wind_1 : decode cX4_wind 1 = .ok (.iconst 0, 1) := by decide +kernel
theorem dX4_wind_2 : decode cX4_wind 2 = .ok (.bipush 11, 2) := by decide +kernel
theorem dX4_wind_4 : decode cX4_wind 4 = .ok (.invokestatic 85, 3) := by decide +kernel
theorem dX4_wind_7 : decode cX4_wind 7 = .ok (.ifCond .eq 21, 3) := by decide +kernel
theorem dX4_wind_10 : decode cX4_wind 10 = .ok (.iload_n 2, 1) := by decide +kernel
theorem dX4_wind_11 : decode cX4_wind 11 = .ok (.iconst 0, 1) := by decide +kernel
theorem dX4_wind_12 : decode cX4_wind 12 = .ok (.iconst 3, 1) := by decide +kernel
theorem dX4_wind_13 : decode cX4_wind 13 = .ok (.invokestatic 85, 3) := by decide +kernel
theorem dX4_wind_16 : decode cX4_wind 16 = .ok (.ifCond .eq 12, 3) := by decide +kernel
theorem dX4_wind_19 : decode cX4_wind 19 = .ok (.iload_n 3, 1) := by decide +kernel
theorem dX4_wind_20 : decode cX4_wind 20 = .ok (.iconst 0, 1) := by decide +kernel
theorem dX4_wind_21 : decode cX4_wind 21 = .ok (.iconst 3, 1) := by decide +kernel
theorem dX4_wind_22 : decode cX4_wind 22 = .ok (.invokestatic 85, 3) := by decide +kernel
theorem dX4_wind_25 : decode cX4_wind 25 = .ok (.ifCond .ne 8, 3) := by decide +kernel
theorem dX4_wind_28 : decode cX4_wind 28 = .ok (.aload_n 0, 1) := by decide +kernel
theorem dX4_wind_29 : decode cX4_wind 29 = .ok (.invokevirtual 89, 3) := by decide +kernel
theorem dX4_wind_32 : decode cX4_wind 32 = .ok (.ireturn, 1) := by decide +kernel
theorem dX4_wind_33 : decode cX4_wind 33 = .ok (.bipush 10, 2) := by decide +kernel
theorem dX4_wind_35 : decode cX4_wind 35 = .ok (.aload_n 0, 1) := by decide +kernel
theorem dX4_wind_36 : decode cX4_wind 36 = .ok (.getfield 13, 3) := by decide +kernel
theorem dX4_wind_39 : decode cX4_wind 39 = .ok (.iload_n 1, 1) := by decide +kernel
theorem dX4_wind_40 : decode cX4_wind 40 = .ok (.iaload, 1) := by decide +kernel
theorem dX4_wind_41 : decode cX4_wind 41 = .ok (.imul, 1) := by decide +kernel
theorem dX4_wind_42 : decode cX4_wind 42 = .ok (.aload_n 0, 1) := by decide +kernel
theorem dX4_wind_43 : decode cX4_wind 43 = .ok (.getfield 16, 3) := by decide +kernel
theorem dX4_wind_46 : decode cX4_wind 46 = .ok (.iload_n 1, 1) := by decide +kernel
theorem dX4_wind_47 : decode cX4_wind 47 = .ok (.iaload, 1) := by decide +kernel
theorem dX4_wind_48 : decode cX4_wind 48 = .ok (.iadd, 1) := by decide +kernel
theorem dX4_wind_49 : decode cX4_wind 49 = .ok (.istore 4, 2) := by decide +kernel
theorem dX4_wind_51 : decode cX4_wind 51 = .ok (.aload_n 0, 1) := by decide +kernel
theorem dX4_wind_52 : decode cX4_wind 52 = .ok (.getfield 13, 3) := by decide +kernel
theorem dX4_wind_55 : decode cX4_wind 55 = .ok (.iload_n 1, 1) := by decide +kernel
theorem dX4_wind_56 : decode cX4_wind 56 = .ok (.iload_n 2, 1) := by decide +kernel
theorem dX4_wind_57 : decode cX4_wind 57 = .ok (.iastore, 1) := by decide +kernel
theorem dX4_wind_58 : decode cX4_wind 58 = .ok (.aload_n 0, 1) := by decide +kernel
theorem dX4_wind_59 : decode cX4_wind 59 = .ok (.getfield 16, 3) := by decide +kernel
theorem dX4_wind_62 : decode cX4_wind 62 = .ok (.iload_n 1, 1) := by decide +kernel
theorem dX4_wind_63 : decode cX4_wind 63 = .ok (.iload_n 3, 1) := by decide +kernel
theorem dX4_wind_64 : decode cX4_wind 64 = .ok (.iastore, 1) := by decide +kernel
theorem dX4_wind_65 : decode cX4_wind 65 = .ok (.aload_n 0, 1) := by decide +kernel
theorem dX4_wind_66 : decode cX4_wind 66 = .ok (.iconst 0, 1) := by decide +kernel
theorem dX4_wind_67 : decode cX4_wind 67 = .ok (.putfield 82, 3) := by decide +kernel
theorem dX4_wind_70 : decode cX4_wind 70 = .ok (.iload 4, 2) := by decide +kernel
theorem dX4_wind_72 : decode cX4_wind 72 = .ok (.ireturn, 1) := by decide +kernel
theorem dX4_addFloe_0 : decode cX4_addFloe 0 = .ok (.aload_n 0, 1) := by decide +kernel
theorem dX4_addFloe_1 : decode cX4_addFloe 1 = .ok (.getfield 19, 3) := by decide +kernel
theorem dX4_addFloe_4 : decode cX4_addFloe 4 = .ok (.aload_n 0, 1) := by decide +kernel
theorem dX4_addFloe_5 : decode cX4_addFloe 5 = .ok (.getfield 73, 3) := by decide +kernel
theorem dX4_addFloe_8 : decode cX4_addFloe 8 = .ok (.iload_n 1, 1) := by decide +kernel
theorem dX4_addFloe_9 : decode cX4_addFloe 9 = .ok (.iastore, 1) := by decide +kernel
theorem dX4_addFloe_10 : decode cX4_addFloe 10 = .ok (.aload_n 0, 1) := by decide +kernel
theorem dX4_addFloe_11 : decode cX4_addFloe 11 = .ok (.getfield 22, 3) := by decide +kernel
theorem dX4_addFloe_14 : decode cX4_addFloe 14 = .ok (.aload_n 0, 1) := by decide +kernel
theorem dX4_addFloe_15 : decode cX4_addFloe 15 = .ok (.getfield 73, 3) := by decide +kernel
theorem dX4_addFloe_18 : decode cX4_addFloe 18 = .ok (.iload_n 2, 1) := by decide +kernel
theorem dX4_addFloe_19 : decode cX4_addFloe 19 = .ok (.iastore, 1) := by decide +kernel
theorem dX4_addFloe_20 : decode cX4_addFloe 20 = .ok (.aload_n 0, 1) := by decide +kernel
theorem dX4_addFloe_21 : decode cX4_addFloe 21 = .ok (.getfield 25, 3) := by decide +kernel
theorem dX4_addFloe_24 : decode cX4_addFloe 24 = .ok (.aload_n 0, 1) := by decide +kernel
theorem dX4_addFloe_25 : decode cX4_addFloe 25 = .ok (.getfield 73, 3) := by decide +kernel
theorem dX4_addFloe_28 : decode cX4_addFloe 28 = .ok (.iload_n 3, 1) := by decide +kernel
theorem dX4_addFloe_29 : decode cX4_addFloe 29 = .ok (.iastore, 1) := by decide +kernel
theorem dX4_addFloe_30 : decode cX4_addFloe 30 = .ok (.aload_n 0, 1) := by decide +kernel
theorem dX4_addFloe_31 : decode cX4_addFloe 31 = .ok (.dup, 1) := by decide +kernel
theorem dX4_addFloe_32 : decode cX4_addFloe 32 = .ok (.getfield 73, 3) := by decide +kernel
theorem dX4_addFloe_35 : decode cX4_addFloe 35 = .ok (.iconst 1, 1) := by decide +kernel
theorem dX4_addFloe_36 : decode cX4_addFloe 36 = .ok (.iadd, 1) := by decide +kernel
theorem dX4_addFloe_37 : decode cX4_addFloe 37 = .ok (.putfield 73, 3) := by decide +kernel
theorem dX4_addFloe_40 : decode cX4_addFloe 40 = .ok (.aload_n 0, 1) := by decide +kernel
theorem dX4_addFloe_41 : decode cX4_addFloe 41 = .ok (.iconst 0, 1) := by decide +kernel
theorem dX4_addFloe_42 : decode cX4_addFloe 42 = .ok (.putfield 82, 3) := by decide +kernel
theorem dX4_addFloe_45 : decode cX4_addFloe 45 = .ok (.aload_n 0, 1) := by decide +kernel
theorem dX4_addFloe_46 : decode cX4_addFloe 46 = .ok (.getfield 73, 3) := by decide +kernel
theorem dX4_addFloe_49 : decode cX4_addFloe 49 = .ok (.iconst 1, 1) := by decide +kernel
theorem dX4_addFloe_50 : decode cX4_addFloe 50 = .ok (.isub, 1) := by decide +kernel
theorem dX4_addFloe_51 : decode cX4_addFloe 51 = .ok (.ireturn, 1) := by decide +kernel
set_option maxRecDepth 20000 in
theorem ggX4_floe_X4_in : GoodIn wsX4_floe wsX4_in := goodIn_r _ [5] (by decide +kernel) (by decide +kernel)
set_option maxRecDepth 20000 in
theorem gX4_floe_X4_in : GoodIn wsX4_floe (va_wsS RX4 85 yX4_in wsX4_in) := goodIn_app (goodIn_of _ (by decide +kernel)) ggX4_floe_X4_in
set_option maxRecDepth 20000 in
theorem ggX4_floe_X4_isCell : GoodIn wsX4_floe wsX4_isCell := goodIn_r _ [8, 2, 3, 4, 5] (by decide +kernel) (by decide +kernel)
set_option maxRecDepth 20000 in
theorem gX4_floe_X4_isCell : GoodIn wsX4_floe (va_wsS RX4 93 yX4_isCell wsX4_isCell) := goodIn_app (goodIn_of _ (by decide +kernel)) ggX4_floe_X4_isCell
set_option maxRecDepth 20000 in
theorem ggX4_floe_X4_bad : GoodIn wsX4_floe wsX4_bad := goodIn_r _ [12, 13, 26, 27, 28, 29, 30, 31, 32, 33, 34, 35, 36, 37, 38, 39, 40, 41, 42, 43, 44, 45, 46, 47, 48, 49, 50, 51, 52, 53, 54, 55] (by decide +kernel) (by decide +kernel)
set_option maxRecDepth 20000 in
theorem gX4_floe_X4_bad : GoodIn wsX4_floe (wsV RX4 89 RX4 yX4_bad wsX4_bad) := goodIn_app (goodIn_of _ (by decide +kernel)) ggX4_floe_X4_bad
set_option maxRecDepth 20000 in
theorem ggX4_floe_X4_full : GoodIn wsX4_floe wsX4_full := goodIn_r _ [17, 13, 26, 27, 28, 29, 30, 31, 32, 33, 34, 35, 36, 37, 38, 39, 40, 41, 42, 43, 44, 45, 46, 47, 48, 49, 50, 51, 52, 53, 54, 55] (by decide +kernel) (by decide +kernel)
set_option maxRecDepth 20000 in
theorem gX4_floe_X4_full : GoodIn wsX4_floe (wsV RX4 97 RX4 yX4_full wsX4_full) := goodIn_app (goodIn_of _ (by decide +kernel)) ggX4_floe_X4_full
set_option maxRecDepth 20000 in
theorem ggX4_floe_X4_addFloe : GoodIn wsX4_floe wsX4_addFloe := goodIn_r _ [21, 22, 1, 23, 24, 25, 26, 27, 28, 29, 30, 31, 32, 33, 34, 35, 36, 37, 38, 39, 40, 41, 42, 43, 44, 45, 46, 47, 48, 49, 50, 51, 52, 53, 54, 55] (by decide +kernel) (by decide +kernel)
set_option maxRecDepth 20000 in
theorem gX4_floe_X4_addFloe : GoodIn wsX4_floe (wsV RX4 100 RX4 yX4_addFloe wsX4_addFloe) := goodIn_app (goodIn_of _ (by decide +kernel)) ggX4_floe_X4_addFloe
theorem dX4_floe_0 : decode cX4_floe 0 = .ok (.iload_n 1, 1) := by decide +kernel
theorem dX4_floe_1 : decode cX4_floe 1 = .ok (.iconst 0, 1) := by decide +kernel
theorem dX4_floe_2 : decode cX4_floe 2 = .ok (.iconst 5, 1) := by decide +kernel
theorem dX4_floe_3 : decode cX4_floe 3 = .ok (.invokestatic 85, 3) := by decide +kernel
theorem dX4_floe_6 : decode cX4_floe 6 = .ok (.ifCond .eq 20, 3) := by decide +kernel
theorem dX4_floe_9 : decode cX4_floe 9 = .ok (.iload_n 2, 1) := by decide +kernel
theorem dX4_floe_10 : decode cX4_floe 10 = .ok (.invokestatic 93, 3) := by decide +kernel
theorem dX4_floe_13 : decode cX4_floe 13 = .ok (.ifCond .eq 13, 3) := by decide +kernel
theorem dX4_floe_16 : decode cX4_floe 16 = .ok (.iload_n 3, 1) := by decide +kernel
theorem dX4_floe_17 : decode cX4_floe 17 = .ok (.iconst 0, 1) := by decide +kernel
theorem dX4_floe_18 : decode cX4_floe 18 = .ok (.bipush 60, 2) := by decide +kernel
theorem dX4_floe_20 : decode cX4_floe 20 = .ok (.invokestatic 85, 3) := by decide +kernel
theorem dX4_floe_23 : decode cX4_floe 23 = .ok (.ifCond .ne 8, 3) := by decide +kernel
theorem dX4_floe_26 : decode cX4_floe 26 = .ok (.aload_n 0, 1) := by decide +kernel
theorem dX4_floe_27 : decode cX4_floe 27 = .ok (.invokevirtual 89, 3) := by decide +kernel
theorem dX4_floe_30 : decode cX4_floe 30 = .ok (.ireturn, 1) := by decide +kernel
theorem dX4_floe_31 : decode cX4_floe 31 = .ok (.aload_n 0, 1) := by decide +kernel
theorem dX4_floe_32 : decode cX4_floe 32 = .ok (.getfield 73, 3) := by decide +kernel
theorem dX4_floe_35 : decode cX4_floe 35 = .ok (.iconst 5, 1) := by decide +kernel
theorem dX4_floe_36 : decode cX4_floe 36 = .ok (.if_icmp .ne 10, 3) := by decide +kernel
theorem dX4_floe_39 : decode cX4_floe 39 = .ok (.aload_n 0, 1) := by decide +kernel
theorem dX4_floe_40 : decode cX4_floe 40 = .ok (.invokevirtual 97, 3) := by decide +kernel
theorem dX4_floe_43 : decode cX4_floe 43 = .ok (.goto 10, 3) := by decide +kernel
theorem dX4_floe_46 : decode cX4_floe 46 = .ok (.aload_n 0, 1) := by decide +kernel
theorem dX4_floe_47 : decode cX4_floe 47 = .ok (.iload_n 1, 1) := by decide +kernel
theorem dX4_floe_48 : decode cX4_floe 48 = .ok (.iload_n 2, 1) := by decide +kernel
theorem dX4_floe_49 : decode cX4_floe 49 = .ok (.iload_n 3, 1) := by decide +kernel
theorem dX4_floe_50 : decode cX4_floe 50 = .ok (.invokevirtual 100, 3) := by decide +kernel
theorem dX4_floe_53 : decode cX4_floe 53 = .ok (.ireturn, 1) := by decide +kernel
set_option maxRecDepth 20000 in
theorem ggX4_type_X4_in : GoodIn wsX4_type wsX4_in := goodIn_r _ [6] (by decide +kernel) (by decide +kernel)
set_option maxRecDepth 20000 in
theorem gX4_type_X4_in : GoodIn wsX4_type (va_wsS RX4 85 yX4_in wsX4_in) := goodIn_app (goodIn_of _ (by decide +kernel)) ggX4_type_X4_in
set_option maxRecDepth 20000 in
theorem ggX4_type_X4_bad : GoodIn wsX4_type wsX4_bad := goodIn_r _ [10, 11, 16, 17, 18, 19, 20, 21, 22, 23, 24, 25, 26, 27, 28, 29, 30, 31, 32, 33, 34, 35, 36, 37, 38, 39, 40, 41, 42, 43, 44, 45] (by decide +kernel) (by decide +kernel)
set_option maxRecDepth 20000 in
theorem gX4_type_X4_bad : GoodIn wsX4_type (wsV RX4 89 RX4 yX4_bad wsX4_bad) := goodIn_app (goodIn_of _ (by decide +kernel)) ggX4_type_X4_bad
set_option maxRecDepth 20000 in
theorem ggX4_type_X4_full : GoodIn wsX4_type wsX4_full := goodIn_r _ [15, 11, 16, 17, 18, 19, 20, 21, 22, 23, 24, 25, 26, 27, 28, 29, 30, 31, 32, 33, 34, 35, 36, 37, 38, 39, 40, 41, 42, 43, 44, 45] (by decide +kernel) (by decide +kernel)
set_option maxRecDepth 20000 in
theorem gX4_type_X4_full : GoodIn wsX4_type (wsV RX4 97 RX4 yX4_full wsX4_full) := goodIn_app (goodIn_of _ (by decide +kernel)) ggX4_type_X4_full
theorem dX4_type_0 : decode cX4_type 0 = .ok (.iload_n 1, 1) := by decide +kernel
theorem dX4_type_1 : decode cX4_type 1 = .ok (.iconst 0, 1) := by decide +kernel
theorem dX4_type_2 : decode cX4_type 2 = .ok (.bipush 127, 2) := by decide +kernel
theorem dX4_type_4 : decode cX4_type 4 = .ok (.invokestatic 85, 3) := by decide +kernel
theorem dX4_type_7 : decode cX4_type 7 = .ok (.ifCond .ne 8, 3) := by decide +kernel
theorem dX4_type_10 : decode cX4_type 10 = .ok (.aload_n 0, 1) := by decide +kernel
theorem dX4_type_11 : decode cX4_type 11 = .ok (.invokevirtual 89, 3) := by decide +kernel
theorem dX4_type_14 : decode cX4_type 14 = .ok (.ireturn, 1) := by decide +kernel
theorem dX4_type_15 : decode cX4_type 15 = .ok (.aload_n 0, 1) := by decide +kernel
theorem dX4_type_16 : decode cX4_type 16 = .ok (.getfield 104, 3) := by decide +kernel
theorem dX4_type_19 : decode cX4_type 19 = .ok (.sipush 150, 3) := by decide +kernel
theorem dX4_type_22 : decode cX4_type 22 = .ok (.if_icmp .ne 8, 3) := by decide +kernel
theorem dX4_type_25 : decode cX4_type 25 = .ok (.aload_n 0, 1) := by decide +kernel
theorem dX4_type_26 : decode cX4_type 26 = .ok (.invokevirtual 97, 3) := by decide +kernel
theorem dX4_type_29 : decode cX4_type 29 = .ok (.ireturn, 1) := by decide +kernel
theorem dX4_type_30 : decode cX4_type 30 = .ok (.aload_n 0, 1) := by decide +kernel
theorem dX4_type_31 : decode cX4_type 31 = .ok (.getfield 40, 3) := by decide +kernel
theorem dX4_type_34 : decode cX4_type 34 = .ok (.aload_n 0, 1) := by decide +kernel
theorem dX4_type_35 : decode cX4_type 35 = .ok (.getfield 104, 3) := by decide +kernel
theorem dX4_type_38 : decode cX4_type 38 = .ok (.iload_n 1, 1) := by decide +kernel
theorem dX4_type_39 : decode cX4_type 39 = .ok (.iastore, 1) := by decide +kernel
theorem dX4_type_40 : decode cX4_type 40 = .ok (.aload_n 0, 1) := by decide +kernel
theorem dX4_type_41 : decode cX4_type 41 = .ok (.dup, 1) := by decide +kernel
theorem dX4_type_42 : decode cX4_type 42 = .ok (.getfield 104, 3) := by decide +kernel
theorem dX4_type_45 : decode cX4_type 45 = .ok (.iconst 1, 1) := by decide +kernel
theorem dX4_type_46 : decode cX4_type 46 = .ok (.iadd, 1) := by decide +kernel
theorem dX4_type_47 : decode cX4_type 47 = .ok (.putfield 104, 3) := by decide +kernel
theorem dX4_type_50 : decode cX4_type 50 = .ok (.aload_n 0, 1) := by decide +kernel
theorem dX4_type_51 : decode cX4_type 51 = .ok (.getfield 104, 3) := by decide +kernel
theorem dX4_type_54 : decode cX4_type 54 = .ok (.ireturn, 1) := by decide +kernel
theorem dX4_clear_0 : decode cX4_clear 0 = .ok (.aload_n 0, 1) := by decide +kernel
theorem dX4_clear_1 : decode cX4_clear 1 = .ok (.getfield 104, 3) := by decide +kernel
theorem dX4_clear_4 : decode cX4_clear 4 = .ok (.istore_n 1, 1) := by decide +kernel
theorem dX4_clear_5 : decode cX4_clear 5 = .ok (.aload_n 0, 1) := by decide +kernel
theorem dX4_clear_6 : decode cX4_clear 6 = .ok (.iconst 0, 1) := by decide +kernel
theorem dX4_clear_7 : decode cX4_clear 7 = .ok (.putfield 104, 3) := by decide +kernel
theorem dX4_clear_10 : decode cX4_clear 10 = .ok (.iload_n 1, 1) := by decide +kernel
theorem dX4_clear_11 : decode cX4_clear 11 = .ok (.ireturn, 1) := by decide +kernel
theorem dX4_here_0 : decode cX4_here 0 = .ok (.aload_n 0, 1) := by decide +kernel
theorem dX4_here_1 : decode cX4_here 1 = .ok (.getfield 107, 3) := by decide +kernel
theorem dX4_here_4 : decode cX4_here 4 = .ok (.aload_n 0, 1) := by decide +kernel
theorem dX4_here_5 : decode cX4_here 5 = .ok (.getfield 104, 3) := by decide +kernel
theorem dX4_here_8 : decode cX4_here 8 = .ok (.if_icmp .ge 15, 3) := by decide +kernel
theorem dX4_here_11 : decode cX4_here 11 = .ok (.aload_n 0, 1) := by decide +kernel
theorem dX4_here_12 : decode cX4_here 12 = .ok (.getfield 40, 3) := by decide +kernel
theorem dX4_here_15 : decode cX4_here 15 = .ok (.aload_n 0, 1) := by decide +kernel
theorem dX4_here_16 : decode cX4_here 16 = .ok (.getfield 107, 3) := by decide +kernel
theorem dX4_here_19 : decode cX4_here 19 = .ok (.iaload, 1) := by decide +kernel
theorem dX4_here_20 : decode cX4_here 20 = .ok (.goto 4, 3) := by decide +kernel
theorem dX4_here_23 : decode cX4_here 23 = .ok (.iconst (-1), 1) := by decide +kernel
theorem dX4_here_24 : decode cX4_here 24 = .ok (.ireturn, 1) := by decide +kernel
set_option maxRecDepth 20000 in
theorem ggX4_skip_X4_here : GoodIn wsX4_skip wsX4_here := goodIn_r _ [6, 1, 7, 8, 9, 10, 11, 12, 13, 14, 15, 16, 17, 18, 19, 20, 21, 22, 23, 24, 25, 26, 27, 28, 29, 30, 31, 32, 33, 34, 35, 36, 37, 38] (by decide +kernel) (by decide +kernel)
set_option maxRecDepth 20000 in
theorem gX4_skip_X4_here : GoodIn wsX4_skip (wsV RX4 110 RX4 yX4_here wsX4_here) := goodIn_app (goodIn_of _ (by decide +kernel)) ggX4_skip_X4_here
theorem dX4_skip_0 : decode cX4_skip 0 = .ok (.aload_n 0, 1) := by decide +kernel
theorem dX4_skip_1 : decode cX4_skip 1 = .ok (.invokevirtual 110, 3) := by decide +kernel
theorem dX4_skip_4 : decode cX4_skip 4 = .ok (.bipush 32, 2) := by decide +kernel
theorem dX4_skip_6 : decode cX4_skip 6 = .ok (.if_icmp .ne 16, 3) := by decide +kernel
theorem dX4_skip_9 : decode cX4_skip 9 = .ok (.aload_n 0, 1) := by decide +kernel
theorem dX4_skip_10 : decode cX4_skip 10 = .ok (.dup, 1) := by decide +kernel
theorem dX4_skip_11 : decode cX4_skip 11 = .ok (.getfield 107, 3) := by decide +kernel
theorem dX4_skip_14 : decode cX4_skip 14 = .ok (.iconst 1, 1) := by decide +kernel
theorem dX4_skip_15 : decode cX4_skip 15 = .ok (.iadd, 1) := by decide +kernel
theorem dX4_skip_16 : decode cX4_skip 16 = .ok (.putfield 107, 3) := by decide +kernel
theorem dX4_skip_19 : decode cX4_skip 19 = .ok (.goto (-19), 3) := by decide +kernel
theorem dX4_skip_22 : decode cX4_skip 22 = .ok (.return_, 1) := by decide +kernel
set_option maxRecDepth 20000 in
theorem ggX4_isLetter_X4_in : GoodIn wsX4_isLetter wsX4_in := goodIn_r _ [4] (by decide +kernel) (by decide +kernel)
set_option maxRecDepth 20000 in
theorem gX4_isLetter_X4_in : GoodIn wsX4_isLetter (va_wsS RX4 85 yX4_in wsX4_in) := goodIn_app (goodIn_of _ (by decide +kernel)) ggX4_isLetter_X4_in
theorem dX4_isLetter_0 : decode cX4_isLetter 0 = .ok (.iload_n 0, 1) := by decide +kernel
theorem dX4_isLetter_1 : decode cX4_isLetter 1 = .ok (.bipush 97, 2) := by decide +kernel
theorem dX4_isLetter_3 : decode cX4_isLetter 3 = .ok (.bipush 122, 2) := by decide +kernel
theorem dX4_isLetter_5 : decode cX4_isLetter 5 = .ok (.invokestatic 85, 3) := by decide +kernel
theorem dX4_isLetter_8 : decode cX4_isLetter 8 = .ok (.ireturn, 1) := by decide +kernel
set_option maxRecDepth 20000 in
theorem ggX4_isFigure_X4_in : GoodIn wsX4_isFigure wsX4_in := goodIn_r _ [4] (by decide +kernel) (by decide +kernel)
set_option maxRecDepth 20000 in
theorem gX4_isFigure_X4_in : GoodIn wsX4_isFigure (va_wsS RX4 85 yX4_in wsX4_in) := goodIn_app (goodIn_of _ (by decide +kernel)) ggX4_isFigure_X4_in
theorem dX4_isFigure_0 : decode cX4_isFigure 0 = .ok (.iload_n 0, 1) := by decide +kernel
theorem dX4_isFigure_1 : decode cX4_isFigure 1 = .ok (.bipush 48, 2) := by decide +kernel
theorem dX4_isFigure_3 : decode cX4_isFigure 3 = .ok (.bipush 57, 2) := by decide +kernel
theorem dX4_isFigure_5 : decode cX4_isFigure 5 = .ok (.invokestatic 85, 3) := by decide +kernel
theorem dX4_isFigure_8 : decode cX4_isFigure 8 = .ok (.ireturn, 1) := by decide +kernel
set_option maxRecDepth 20000 in
theorem ggX4_wordSize_X4_isLetter : GoodIn wsX4_wordSize wsX4_isLetter := goodIn_r _ [7, 8, 9, 6, 10] (by decide +kernel) (by decide +kernel)
set_option maxRecDepth 20000 in
theorem gX4_wordSize_X4_isLetter : GoodIn wsX4_wordSize (va_wsS RX4 113 yX4_isLetter wsX4_isLetter) := goodIn_app (goodIn_of _ (by decide +kernel)) ggX4_wordSize_X4_isLetter
theorem dX4_wordSize_0 : decode cX4_wordSize 0 = .ok (.iconst 0, 1) := by decide +kernel
theorem dX4_wordSize_1 : decode cX4_wordSize 1 = .ok (.istore_n 1, 1) := by decide +kernel
theorem dX4_wordSize_2 : decode cX4_wordSize 2 = .ok (.aload_n 0, 1) := by decide +kernel
theorem dX4_wordSize_3 : decode cX4_wordSize 3 = .ok (.getfield 107, 3) := by decide +kernel
theorem dX4_wordSize_6 : decode cX4_wordSize 6 = .ok (.iload_n 1, 1) := by decide +kernel
theorem dX4_wordSize_7 : decode cX4_wordSize 7 = .ok (.iadd, 1) := by decide +kernel
theorem dX4_wordSize_8 : decode cX4_wordSize 8 = .ok (.aload_n 0, 1) := by decide +kernel
theorem dX4_wordSize_9 : decode cX4_wordSize 9 = .ok (.getfield 104, 3) := by decide +kernel
theorem dX4_wordSize_12 : decode cX4_wordSize 12 = .ok (.if_icmp .ge 26, 3) := by decide +kernel
theorem dX4_wordSize_15 : decode cX4_wordSize 15 = .ok (.aload_n 0, 1) := by decide +kernel
theorem dX4_wordSize_16 : decode cX4_wordSize 16 = .ok (.getfield 40, 3) := by decide +kernel
theorem dX4_wordSize_19 : decode cX4_wordSize 19 = .ok (.aload_n 0, 1) := by decide +kernel
theorem dX4_wordSize_20 : decode cX4_wordSize 20 = .ok (.getfield 107, 3) := by decide +kernel
theorem dX4_wordSize_23 : decode cX4_wordSize 23 = .ok (.iload_n 1, 1) := by decide +kernel
theorem dX4_wordSize_24 : decode cX4_wordSize 24 = .ok (.iadd, 1) := by decide +kernel
theorem dX4_wordSize_25 : decode cX4_wordSize 25 = .ok (.iaload, 1) := by decide +kernel
theorem dX4_wordSize_26 : decode cX4_wordSize 26 = .ok (.invokestatic 113, 3) := by decide +kernel
theorem dX4_wordSize_29 : decode cX4_wordSize 29 = .ok (.ifCond .eq 9, 3) := by decide +kernel
theorem dX4_wordSize_32 : decode cX4_wordSize 32 = .ok (.iinc 1 1, 3) := by decide +kernel
theorem dX4_wordSize_35 : decode cX4_wordSize 35 = .ok (.goto (-33), 3) := by decide +kernel
theorem dX4_wordSize_38 : decode cX4_wordSize 38 = .ok (.iload_n 1, 1) := by decide +kernel
theorem dX4_wordSize_39 : decode cX4_wordSize 39 = .ok (.ireturn, 1) := by decide +kernel
theorem dX4_letter_0 : decode cX4_letter 0 = .ok (.aload_n 0, 1) := by decide +kernel
theorem dX4_letter_1 : decode cX4_letter 1 = .ok (.getfield 40, 3) := by decide +kernel
theorem dX4_letter_4 : decode cX4_letter 4 = .ok (.aload_n 0, 1) := by decide +kernel
theorem dX4_letter_5 : decode cX4_letter 5 = .ok (.getfield 107, 3) := by decide +kernel
theorem dX4_letter_8 : decode cX4_letter 8 = .ok (.iload_n 1, 1) := by decide +kernel
theorem dX4_letter_9 : decode cX4_letter 9 = .ok (.iadd, 1) := by decide +kernel
theorem dX4_letter_10 : decode cX4_letter 10 = .ok (.iaload, 1) := by decide +kernel
theorem dX4_letter_11 : decode cX4_letter 11 = .ok (.ireturn, 1) := by decide +kernel
set_option maxRecDepth 20000 in
theorem ggX4_wordHere_X4_wordSize : GoodIn wsX4_wordHere wsX4_wordSize := goodIn_r _ [5, 6, 7, 8, 9, 10, 4, 11, 12, 13, 14, 19, 20, 21, 22, 23, 24, 25, 26, 27, 28, 29, 30, 31, 32, 33, 34, 35, 36, 37, 38, 39, 40, 41, 42, 43, 44, 45, 46, 47, 48] (by decide +kernel) (by decide +kernel)
set_option maxRecDepth 20000 in
theorem gX4_wordHere_X4_wordSize : GoodIn wsX4_wordHere (wsV RX4 116 RX4 yX4_wordSize wsX4_wordSize) := goodIn_app (goodIn_of _ (by decide +kernel)) ggX4_wordHere_X4_wordSize
set_option maxRecDepth 20000 in
theorem ggX4_wordHere_X4_letter : GoodIn wsX4_wordHere wsX4_letter := goodIn_r _ [18, 8, 6, 19, 20, 21, 22, 23, 24, 25, 26, 27, 28, 29, 30, 31, 32, 33, 34, 35, 36, 37, 38, 39, 40, 41, 42, 43, 44, 45, 46, 47, 48] (by decide +kernel) (by decide +kernel)
set_option maxRecDepth 20000 in
theorem gX4_wordHere_X4_letter : GoodIn wsX4_wordHere (wsV RX4 119 RX4 yX4_letter wsX4_letter) := goodIn_app (goodIn_of _ (by decide +kernel)) ggX4_wordHere_X4_letter
theorem dX4_wordHere_0 : decode cX4_wordHere 0 = .ok (.aload_n 0, 1) := by decide +kernel
theorem dX4_wordHere_1 : decode cX4_wordHere 1 = .ok (.invokevirtual 116, 3) := by decide +kernel
theorem dX4_wordHere_4 : decode cX4_wordHere 4 = .ok (.istore_n 1, 1) := by decide +kernel
theorem dX4_wordHere_5 : decode cX4_wordHere 5 = .ok (.iload_n 1, 1) := by decide +kernel
theorem dX4_wordHere_6 : decode cX4_wordHere 6 = .ok (.iconst 3, 1) := by decide +kernel
theorem dX4_wordHere_7 : decode cX4_wordHere 7 = .ok (.if_icmp .ne 35, 3) := by decide +kernel
theorem dX4_wordHere_10 : decode cX4_wordHere 10 = .ok (.aload_n 0, 1) := by decide +kernel
theorem dX4_wordHere_11 : decode cX4_wordHere 11 = .ok (.iconst 0, 1) := by decide +kernel
theorem dX4_wordHere_12 : decode cX4_wordHere 12 = .ok (.invokevirtual 119, 3) := by decide +kernel
theorem dX4_wordHere_15 : decode cX4_wordHere 15 = .ok (.bipush 115, 2) := by decide +kernel
theorem dX4_wordHere_17 : decode cX4_wordHere 17 = .ok (.if_icmp .ne 25, 3) := by decide +kernel
theorem dX4_wordHere_20 : decode cX4_wordHere 20 = .ok (.aload_n 0, 1) := by decide +kernel
theorem dX4_wordHere_21 : decode cX4_wordHere 21 = .ok (.iconst 1, 1) := by decide +kernel
theorem dX4_wordHere_22 : decode cX4_wordHere 22 = .ok (.invokevirtual 119, 3) := by decide +kernel
theorem dX4_wordHere_25 : decode cX4_wordHere 25 = .ok (.bipush 101, 2) := by decide +kernel
theorem dX4_wordHere_27 : decode cX4_wordHere 27 = .ok (.if_icmp .ne 15, 3) := by decide +kernel
theorem dX4_wordHere_30 : decode cX4_wordHere 30 = .ok (.aload_n 0, 1) := by decide +kernel
theorem dX4_wordHere_31 : decode cX4_wordHere 31 = .ok (.iconst 2, 1) := by decide +kernel
theorem dX4_wordHere_32 : decode cX4_wordHere 32 = .ok (.invokevirtual 119, 3) := by decide +kernel
theorem dX4_wordHere_35 : decode cX4_wordHere 35 = .ok (.bipush 97, 2) := by decide +kernel
theorem dX4_wordHere_37 : decode cX4_wordHere 37 = .ok (.if_icmp .ne 5, 3) := by decide +kernel
theorem dX4_wordHere_40 : decode cX4_wordHere 40 = .ok (.iconst 0, 1) := by decide +kernel
theorem dX4_wordHere_41 : decode cX4_wordHere 41 = .ok (.ireturn, 1) := by decide +kernel
theorem dX4_wordHere_42 : decode cX4_wordHere 42 = .ok (.iload_n 1, 1) := by decide +kernel
theorem dX4_wordHere_43 : decode cX4_wordHere 43 = .ok (.iconst 4, 1) := by decide +kernel
theorem dX4_wordHere_44 : decode cX4_wordHere 44 = .ok (.if_icmp .ne 45, 3) := by decide +kernel
theorem dX4_wordHere_47 : decode cX4_wordHere 47 = .ok (.aload_n 0, 1) := by decide +kernel
theorem dX4_wordHere_48 : decode cX4_wordHere 48 = .ok (.iconst 0, 1) := by decide +kernel
theorem dX4_wordHere_49 : decode cX4_wordHere 49 = .ok (.invokevirtual 119, 3) := by decide +kernel
theorem dX4_wordHere_52 : decode cX4_wordHere 52 = .ok (.bipush 119, 2) := by decide +kernel
theorem dX4_wordHere_54 : decode cX4_wordHere 54 = .ok (.if_icmp .ne 35, 3) := by decide +kernel
theorem dX4_wordHere_57 : decode cX4_wordHere 57 = .ok (.aload_n 0, 1) := by decide +kernel
theorem dX4_wordHere_58 : decode cX4_wordHere 58 = .ok (.iconst 1, 1) := by decide +kernel
theorem dX4_wordHere_59 : decode cX4_wordHere 59 = .ok (.invokevirtual 119, 3) := by decide +kernel
theorem dX4_wordHere_62 : decode cX4_wordHere 62 = .ok (.bipush 105, 2) := by decide +kernel
theorem dX4_wordHere_64 : decode cX4_wordHere 64 = .ok (.if_icmp .ne 25, 3) := by decide +kernel
theorem dX4_wordHere_67 : decode cX4_wordHere 67 = .ok (.aload_n 0, 1) := by decide +kernel
theorem dX4_wordHere_68 : decode cX4_wordHere 68 = .ok (.iconst 2, 1) := by decide +kernel
theorem dX4_wordHere_69 : decode cX4_wordHere 69 = .ok (.invokevirtual 119, 3) := by decide +kernel
theorem dX4_wordHere_72 : decode cX4_wordHere 72 = .ok (.bipush 110, 2) := by decide +kernel
theorem dX4_wordHere_74 : decode cX4_wordHere 74 = .ok (.if_icmp .ne 15, 3) := by decide +kernel
theorem dX4_wordHere_77 : decode cX4_wordHere 77 = .ok (.aload_n 0, 1) := by decide +kernel
theorem dX4_wordHere_78 : decode cX4_wordHere 78 = .ok (.iconst 3, 1) := by decide +kernel
theorem dX4_wordHere_79 : decode cX4_wordHere 79 = .ok (.invokevirtual 119, 3) := by decide +kernel
theorem dX4_wordHere_82 : decode cX4_wordHere 82 = .ok (.bipush 100, 2) := by decide +kernel
theorem dX4_wordHere_84 : decode cX4_wordHere 84 = .ok (.if_icmp .ne 5, 3) := by decide +kernel
theorem dX4_wordHere_87 : decode cX4_wordHere 87 = .ok (.iconst 1, 1) := by decide +kernel
theorem dX4_wordHere_88 : decode cX4_wordHere 88 = .ok (.ireturn, 1) := by decide +kernel
theorem dX4_wordHere_89 : decode cX4_wordHere 89 = .ok (.iload_n 1, 1) := by decide +kernel
theorem dX4_wordHere_90 : decode cX4_wordHere 90 = .ok (.iconst 4, 1) := by decide +kernel
theorem dX4_wordHere_91 : decode cX4_wordHere 91 = .ok (.if_icmp .ne 47, 3) := by decide +kernel
theorem dX4_wordHere_94 : decode cX4_wordHere 94 = .ok (.aload_n 0, 1) := by decide +kernel
theorem dX4_wordHere_95 : decode cX4_wordHere 95 = .ok (.iconst 0, 1) := by decide +kernel
theorem dX4_wordHere_96 : decode cX4_wordHere 96 = .ok (.invokevirtual 119, 3) := by decide +kernel
theorem dX4_wordHere_99 : decode cX4_wordHere 99 = .ok (.bipush 102, 2) := by decide +kernel
theorem dX4_wordHere_101 : decode cX4_wordHere 101 = .ok (.if_icmp .ne 37, 3) := by decide +kernel
theorem dX4_wordHere_104 : decode cX4_wordHere 104 = .ok (.aload_n 0, 1) := by decide +kernel
theorem dX4_wordHere_105 : decode cX4_wordHere 105 = .ok (.iconst 1, 1) := by decide +kernel
theorem dX4_wordHere_106 : decode cX4_wordHere 106 = .ok (.invokevirtual 119, 3) := by decide +kernel
theorem dX4_wordHere_109 : decode cX4_wordHere 109 = .ok (.bipush 108, 2) := by decide +kernel
theorem dX4_wordHere_111 : decode cX4_wordHere 111 = .ok (.if_icmp .ne 27, 3) := by decide +kernel
theorem dX4_wordHere_114 : decode cX4_wordHere 114 = .ok (.aload_n 0, 1) := by decide +kernel
theorem dX4_wordHere_115 : decode cX4_wordHere 115 = .ok (.iconst 2, 1) := by decide +kernel
theorem dX4_wordHere_116 : decode cX4_wordHere 116 = .ok (.invokevirtual 119, 3) := by decide +kernel
theorem dX4_wordHere_119 : decode cX4_wordHere 119 = .ok (.bipush 111, 2) := by decide +kernel
theorem dX4_wordHere_121 : decode cX4_wordHere 121 = .ok (.if_icmp .ne 17, 3) := by decide +kernel
theorem dX4_wordHere_124 : decode cX4_wordHere 124 = .ok (.aload_n 0, 1) := by decide +kernel
theorem dX4_wordHere_125 : decode cX4_wordHere 125 = .ok (.iconst 3, 1) := by decide +kernel
theorem dX4_wordHere_126 : decode cX4_wordHere 126 = .ok (.invokevirtual 119, 3) := by decide +kernel
theorem dX4_wordHere_129 : decode cX4_wordHere 129 = .ok (.bipush 101, 2) := by decide +kernel
theorem dX4_wordHere_131 : decode cX4_wordHere 131 = .ok (.if_icmp .ne 7, 3) := by decide +kernel
theorem dX4_wordHere_134 : decode cX4_wordHere 134 = .ok (.iconst 2, 1) := by decide +kernel
theorem dX4_wordHere_135 : decode cX4_wordHere 135 = .ok (.goto 4, 3) := by decide +kernel
theorem dX4_wordHere_138 : decode cX4_wordHere 138 = .ok (.iconst (-1), 1) := by decide +kernel
theorem dX4_wordHere_139 : decode cX4_wordHere 139 = .ok (.ireturn, 1) := by decide +kernel
set_option maxRecDepth 20000 in
theorem ggX4_number_X4_skip : GoodIn wsX4_number wsX4_skip := goodIn_r _ [9, 1, 10, 11, 12, 8, 13, 2, 3, 20, 21, 22, 23, 24, 25, 26, 27, 28, 29, 30, 31, 32, 33, 34, 35, 36, 37, 38, 39, 40, 41, 42, 43, 44, 45, 46, 47, 48, 49] (by decide +kernel) (by decide +kernel)
set_option maxRecDepth 20000 in
theorem gX4_number_X4_skip : GoodIn wsX4_number (wsV RX4 123 RX4 yX4_skip wsX4_skip) := goodIn_app (goodIn_of _ (by decide +kernel)) ggX4_number_X4_skip
set_option maxRecDepth 20000 in
theorem ggX4_number_X4_isFigure : GoodIn wsX4_number wsX4_isFigure := goodIn_r _ [16, 17, 18, 8, 19] (by decide +kernel) (by decide +kernel)
set_option maxRecDepth 20000 in
theorem gX4_number_X4_isFigure : GoodIn wsX4_number (va_wsS RX4 126 yX4_isFigure wsX4_isFigure) := goodIn_app (goodIn_of _ (by decide +kernel)) ggX4_number_X4_isFigure
set_option maxRecDepth 20000 in
theorem ggX4_number_X4_in : GoodIn wsX4_number wsX4_in := goodIn_r _ [19] (by decide +kernel) (by decide +kernel)
set_option maxRecDepth 20000 in
theorem gX4_number_X4_in : GoodIn wsX4_number (va_wsS RX4 85 yX4_in wsX4_in) := goodIn_app (goodIn_of _ (by decide +kernel)) ggX4_number_X4_in
theorem dX4_number_0 : decode cX4_number 0 = .ok (.aload_n 0, 1) := by decide +kernel
theorem dX4_number_1 : decode cX4_number 1 = .ok (.invokevirtual 123, 3) := by decide +kernel
theorem dX4_number_4 : decode cX4_number 4 = .ok (.iconst 0, 1) := by decide +kernel
theorem dX4_number_5 : decode cX4_number 5 = .ok (.istore_n 3, 1) := by decide +kernel
theorem dX4_number_6 : decode cX4_number 6 = .ok (.iconst 0, 1) := by decide +kernel
theorem dX4_number_7 : decode cX4_number 7 = .ok (.istore 4, 2) := by decide +kernel
theorem dX4_number_9 : decode cX4_number 9 = .ok (.aload_n 0, 1) := by decide +kernel
theorem dX4_number_10 : decode cX4_number 10 = .ok (.getfield 107, 3) := by decide +kernel
theorem dX4_number_13 : decode cX4_number 13 = .ok (.iload_n 3, 1) := by decide +kernel
theorem dX4_number_14 : decode cX4_number 14 = .ok (.iadd, 1) := by decide +kernel
theorem dX4_number_15 : decode cX4_number 15 = .ok (.aload_n 0, 1) := by decide +kernel
theorem dX4_number_16 : decode cX4_number 16 = .ok (.getfield 104, 3) := by decide +kernel
theorem dX4_number_19 : decode cX4_number 19 = .ok (.if_icmp .ge 58, 3) := by decide +kernel
theorem dX4_number_22 : decode cX4_number 22 = .ok (.aload_n 0, 1) := by decide +kernel
theorem dX4_number_23 : decode cX4_number 23 = .ok (.getfield 40, 3) := by decide +kernel
theorem dX4_number_26 : decode cX4_number 26 = .ok (.aload_n 0, 1) := by decide +kernel
theorem dX4_number_27 : decode cX4_number 27 = .ok (.getfield 107, 3) := by decide +kernel
theorem dX4_number_30 : decode cX4_number 30 = .ok (.iload_n 3, 1) := by decide +kernel
theorem dX4_number_31 : decode cX4_number 31 = .ok (.iadd, 1) := by decide +kernel
theorem dX4_number_32 : decode cX4_number 32 = .ok (.iaload, 1) := by decide +kernel
theorem dX4_number_33 : decode cX4_number 33 = .ok (.invokestatic 126, 3) := by decide +kernel
theorem dX4_number_36 : decode cX4_number 36 = .ok (.ifCond .eq 41, 3) := by decide +kernel
theorem dX4_number_39 : decode cX4_number 39 = .ok (.iload_n 3, 1) := by decide +kernel
theorem dX4_number_40 : decode cX4_number 40 = .ok (.iconst 2, 1) := by decide +kernel
theorem dX4_number_41 : decode cX4_number 41 = .ok (.if_icmp .ge 26, 3) := by decide +kernel
theorem dX4_number_44 : decode cX4_number 44 = .ok (.bipush 10, 2) := by decide +kernel
theorem dX4_number_46 : decode cX4_number 46 = .ok (.iload 4, 2) := by decide +kernel
theorem dX4_number_48 : decode cX4_number 48 = .ok (.imul, 1) := by decide +kernel
theorem dX4_number_49 : decode cX4_number 49 = .ok (.aload_n 0, 1) := by decide +kernel
theorem dX4_number_50 : decode cX4_number 50 = .ok (.getfield 40, 3) := by decide +kernel
theorem dX4_number_53 : decode cX4_number 53 = .ok (.aload_n 0, 1) := by decide +kernel
theorem dX4_number_54 : decode cX4_number 54 = .ok (.getfield 107, 3) := by decide +kernel
theorem dX4_number_57 : decode cX4_number 57 = .ok (.iload_n 3, 1) := by decide +kernel
theorem dX4_number_58 : decode cX4_number 58 = .ok (.iadd, 1) := by decide +kernel
theorem dX4_number_59 : decode cX4_number 59 = .ok (.iaload, 1) := by decide +kernel
theorem dX4_number_60 : decode cX4_number 60 = .ok (.iadd, 1) := by decide +kernel
theorem dX4_number_61 : decode cX4_number 61 = .ok (.bipush 48, 2) := by decide +kernel
theorem dX4_number_63 : decode cX4_number 63 = .ok (.isub, 1) := by decide +kernel
theorem dX4_number_64 : decode cX4_number 64 = .ok (.goto 5, 3) := by decide +kernel
theorem dX4_number_67 : decode cX4_number 67 = .ok (.iload 4, 2) := by decide +kernel
theorem dX4_number_69 : decode cX4_number 69 = .ok (.istore 4, 2) := by decide +kernel
theorem dX4_number_71 : decode cX4_number 71 = .ok (.iinc 3 1, 3) := by decide +kernel
theorem dX4_number_74 : decode cX4_number 74 = .ok (.goto (-65), 3) := by decide +kernel
theorem dX4_number_77 : decode cX4_number 77 = .ok (.iload_n 3, 1) := by decide +kernel
theorem dX4_number_78 : decode cX4_number 78 = .ok (.iconst 1, 1) := by decide +kernel
theorem dX4_number_79 : decode cX4_number 79 = .ok (.iconst 2, 1) := by decide +kernel
theorem dX4_number_80 : decode cX4_number 80 = .ok (.invokestatic 85, 3) := by decide +kernel
theorem dX4_number_83 : decode cX4_number 83 = .ok (.ifCond .eq 13, 3) := by decide +kernel
theorem dX4_number_86 : decode cX4_number 86 = .ok (.iload 4, 2) := by decide +kernel
theorem dX4_number_88 : decode cX4_number 88 = .ok (.iload_n 1, 1) := by decide +kernel
theorem dX4_number_89 : decode cX4_number 89 = .ok (.iload_n 2, 1) := by decide +kernel
theorem dX4_number_90 : decode cX4_number 90 = .ok (.invokestatic 85, 3) := by decide +kernel
theorem dX4_number_93 : decode cX4_number 93 = .ok (.ifCond .ne 5, 3) := by decide +kernel
theorem dX4_number_96 : decode cX4_number 96 = .ok (.iconst 0, 1) := by decide +kernel
theorem dX4_number_97 : decode cX4_number 97 = .ok (.ireturn, 1) := by decide +kernel
theorem dX4_number_98 : decode cX4_number 98 = .ok (.aload_n 0, 1) := by decide +kernel
theorem dX4_number_99 : decode cX4_number 99 = .ok (.iload 4, 2) := by decide +kernel
theorem dX4_number_101 : decode cX4_number 101 = .ok (.putfield 129, 3) := by decide +kernel
theorem dX4_number_104 : decode cX4_number 104 = .ok (.aload_n 0, 1) := by decide +kernel
theorem dX4_number_105 : decode cX4_number 105 = .ok (.dup, 1) := by decide +kernel
theorem dX4_number_106 : decode cX4_number 106 = .ok (.getfield 107, 3) := by decide +kernel
theorem dX4_number_109 : decode cX4_number 109 = .ok (.iload_n 3, 1) := by decide +kernel
theorem dX4_number_110 : decode cX4_number 110 = .ok (.iadd, 1) := by decide +kernel
theorem dX4_number_111 : decode cX4_number 111 = .ok (.putfield 107, 3) := by decide +kernel
theorem dX4_number_114 : decode cX4_number 114 = .ok (.iconst 1, 1) := by decide +kernel
theorem dX4_number_115 : decode cX4_number 115 = .ok (.ireturn, 1) := by decide +kernel
set_option maxRecDepth 20000 in
theorem ggX4_ends_X4_skip : GoodIn wsX4_ends wsX4_skip := goodIn_r _ [6, 1, 7, 8, 9, 5, 10, 11, 12, 13, 14, 15, 16, 17, 18, 19, 20, 21, 22, 23, 24, 25, 26, 27, 28, 29, 30, 31, 32, 33, 34, 35, 36, 37, 38, 39, 40, 41, 42] (by decide +kernel) (by decide +kernel)
set_option maxRecDepth 20000 in
theorem gX4_ends_X4_skip : GoodIn wsX4_ends (wsV RX4 123 RX4 yX4_skip wsX4_skip) := goodIn_app (goodIn_of _ (by decide +kernel)) ggX4_ends_X4_skip
set_option maxRecDepth 20000 in
theorem ggX4_ends_X4_here : GoodIn wsX4_ends wsX4_here := goodIn_r _ [10, 1, 11, 12, 13, 14, 15, 16, 17, 18, 19, 20, 21, 22, 23, 24, 25, 26, 27, 28, 29, 30, 31, 32, 33, 34, 35, 36, 37, 38, 39, 40, 41, 42] (by decide +kernel) (by decide +kernel)
set_option maxRecDepth 20000 in
theorem gX4_ends_X4_here : GoodIn wsX4_ends (wsV RX4 110 RX4 yX4_here wsX4_here) := goodIn_app (goodIn_of _ (by decide +kernel)) ggX4_ends_X4_here
theorem dX4_ends_0 : decode cX4_ends 0 = .ok (.aload_n 0, 1) := by decide +kernel
theorem dX4_ends_1 : decode cX4_ends 1 = .ok (.invokevirtual 123, 3) := by decide +kernel
theorem dX4_ends_4 : decode cX4_ends 4 = .ok (.aload_n 0, 1) := by decide +kernel
theorem dX4_ends_5 : decode cX4_ends 5 = .ok (.invokevirtual 110, 3) := by decide +kernel
theorem dX4_ends_8 : decode cX4_ends 8 = .ok (.bipush 59, 2) := by decide +kernel
theorem dX4_ends_10 : decode cX4_ends 10 = .ok (.if_icmp .eq 5, 3) := by decide +kernel
theorem dX4_ends_13 : decode cX4_ends 13 = .ok (.iconst 0, 1) := by decide +kernel
theorem dX4_ends_14 : decode cX4_ends 14 = .ok (.ireturn, 1) := by decide +kernel
theorem dX4_ends_15 : decode cX4_ends 15 = .ok (.aload_n 0, 1) := by decide +kernel
theorem dX4_ends_16 : decode cX4_ends 16 = .ok (.dup, 1) := by decide +kernel
theorem dX4_ends_17 : decode cX4_ends 17 = .ok (.getfield 107, 3) := by decide +kernel
theorem dX4_ends_20 : decode cX4_ends 20 = .ok (.iconst 1, 1) := by decide +kernel
theorem dX4_ends_21 : decode cX4_ends 21 = .ok (.iadd, 1) := by decide +kernel
theorem dX4_ends_22 : decode cX4_ends 22 = .ok (.putfield 107, 3) := by decide +kernel
theorem dX4_ends_25 : decode cX4_ends 25 = .ok (.iconst 1, 1) := by decide +kernel
theorem dX4_ends_26 : decode cX4_ends 26 = .ok (.ireturn, 1) := by decide +kernel
set_option maxRecDepth 20000 in
theorem ggX4_readsWind_X4_number : GoodIn wsX4_readsWind wsX4_number := goodIn_r _ [7, 8, 9, 10, 1, 11, 12, 13, 6, 14, 15, 16, 17, 18, 19, 20, 21, 22, 23, 24, 29, 30, 31, 32, 33, 34, 35, 36, 37, 38, 39, 40, 41, 42, 43, 44, 45, 46, 47, 48, 49, 50, 51, 52, 53, 54, 55, 56, 57, 58] (by decide +kernel) (by decide +kernel)
set_option maxRecDepth 20000 in
theorem gX4_readsWind_X4_number : GoodIn wsX4_readsWind (wsV RX4 132 RX4 yX4_number wsX4_number) := goodIn_app (goodIn_of _ (by decide +kernel)) ggX4_readsWind_X4_number
set_option maxRecDepth 20000 in
theorem ggX4_readsWind_X4_ends : GoodIn wsX4_readsWind wsX4_ends := goodIn_r _ [28, 8, 11, 12, 13, 6, 14, 15, 16, 17, 18, 9, 10, 29, 30, 31, 32, 33, 34, 35, 36, 37, 38, 39, 40, 41, 42, 43, 44, 45, 46, 47, 48, 49, 50, 51, 52, 53, 54, 55, 56, 57, 58] (by decide +kernel) (by decide +kernel)
set_option maxRecDepth 20000 in
theorem gX4_readsWind_X4_ends : GoodIn wsX4_readsWind (wsV RX4 136 RX4 yX4_ends wsX4_ends) := goodIn_app (goodIn_of _ (by decide +kernel)) ggX4_readsWind_X4_ends
theorem dX4_readsWind_0 : decode cX4_readsWind 0 = .ok (.aload_n 0, 1) := by decide +kernel
theorem dX4_readsWind_1 : decode cX4_readsWind 1 = .ok (.iconst 0, 1) := by decide +kernel
theorem dX4_readsWind_2 : decode cX4_readsWind 2 = .ok (.bipush 11, 2) := by decide +kernel
theorem dX4_readsWind_4 : decode cX4_readsWind 4 = .ok (.invokevirtual 132, 3) := by decide +kernel
theorem dX4_readsWind_7 : decode cX4_readsWind 7 = .ok (.ifCond .ne 5, 3) := by decide +kernel
theorem dX4_readsWind_10 : decode cX4_readsWind 10 = .ok (.iconst 0, 1) := by decide +kernel
theorem dX4_readsWind_11 : decode cX4_readsWind 11 = .ok (.ireturn, 1) := by decide +kernel
theorem dX4_readsWind_12 : decode cX4_readsWind 12 = .ok (.aload_n 0, 1) := by decide +kernel
theorem dX4_readsWind_13 : decode cX4_readsWind 13 = .ok (.getfield 129, 3) := by decide +kernel
theorem dX4_readsWind_16 : decode cX4_readsWind 16 = .ok (.istore_n 1, 1) := by decide +kernel
theorem dX4_readsWind_17 : decode cX4_readsWind 17 = .ok (.aload_n 0, 1) := by decide +kernel
theorem dX4_readsWind_18 : decode cX4_readsWind 18 = .ok (.iconst 0, 1) := by decide +kernel
theorem dX4_readsWind_19 : decode cX4_readsWind 19 = .ok (.iconst 3, 1) := by decide +kernel
theorem dX4_readsWind_20 : decode cX4_readsWind 20 = .ok (.invokevirtual 132, 3) := by decide +kernel
theorem dX4_readsWind_23 : decode cX4_readsWind 23 = .ok (.ifCond .ne 5, 3) := by decide +kernel
theorem dX4_readsWind_26 : decode cX4_readsWind 26 = .ok (.iconst 0, 1) := by decide +kernel
theorem dX4_readsWind_27 : decode cX4_readsWind 27 = .ok (.ireturn, 1) := by decide +kernel
theorem dX4_readsWind_28 : decode cX4_readsWind 28 = .ok (.aload_n 0, 1) := by decide +kernel
theorem dX4_readsWind_29 : decode cX4_readsWind 29 = .ok (.getfield 46, 3) := by decide +kernel
theorem dX4_readsWind_32 : decode cX4_readsWind 32 = .ok (.iconst 2, 1) := by decide +kernel
theorem dX4_readsWind_33 : decode cX4_readsWind 33 = .ok (.iload_n 1, 1) := by decide +kernel
theorem dX4_readsWind_34 : decode cX4_readsWind 34 = .ok (.imul, 1) := by decide +kernel
theorem dX4_readsWind_35 : decode cX4_readsWind 35 = .ok (.aload_n 0, 1) := by decide +kernel
theorem dX4_readsWind_36 : decode cX4_readsWind 36 = .ok (.getfield 129, 3) := by decide +kernel
theorem dX4_readsWind_39 : decode cX4_readsWind 39 = .ok (.iastore, 1) := by decide +kernel
theorem dX4_readsWind_40 : decode cX4_readsWind 40 = .ok (.aload_n 0, 1) := by decide +kernel
theorem dX4_readsWind_41 : decode cX4_readsWind 41 = .ok (.iconst 0, 1) := by decide +kernel
theorem dX4_readsWind_42 : decode cX4_readsWind 42 = .ok (.iconst 3, 1) := by decide +kernel
theorem dX4_readsWind_43 : decode cX4_readsWind 43 = .ok (.invokevirtual 132, 3) := by decide +kernel
theorem dX4_readsWind_46 : decode cX4_readsWind 46 = .ok (.ifCond .ne 5, 3) := by decide +kernel
theorem dX4_readsWind_49 : decode cX4_readsWind 49 = .ok (.iconst 0, 1) := by decide +kernel
theorem dX4_readsWind_50 : decode cX4_readsWind 50 = .ok (.ireturn, 1) := by decide +kernel
theorem dX4_readsWind_51 : decode cX4_readsWind 51 = .ok (.aload_n 0, 1) := by decide +kernel
theorem dX4_readsWind_52 : decode cX4_readsWind 52 = .ok (.getfield 46, 3) := by decide +kernel
theorem dX4_readsWind_55 : decode cX4_readsWind 55 = .ok (.iconst 2, 1) := by decide +kernel
theorem dX4_readsWind_56 : decode cX4_readsWind 56 = .ok (.iload_n 1, 1) := by decide +kernel
theorem dX4_readsWind_57 : decode cX4_readsWind 57 = .ok (.imul, 1) := by decide +kernel
theorem dX4_readsWind_58 : decode cX4_readsWind 58 = .ok (.iconst 1, 1) := by decide +kernel
theorem dX4_readsWind_59 : decode cX4_readsWind 59 = .ok (.iadd, 1) := by decide +kernel
theorem dX4_readsWind_60 : decode cX4_readsWind 60 = .ok (.aload_n 0, 1) := by decide +kernel
theorem dX4_readsWind_61 : decode cX4_readsWind 61 = .ok (.getfield 129, 3) := by decide +kernel
theorem dX4_readsWind_64 : decode cX4_readsWind 64 = .ok (.iastore, 1) := by decide +kernel
theorem dX4_readsWind_65 : decode cX4_readsWind 65 = .ok (.aload_n 0, 1) := by decide +kernel
theorem dX4_readsWind_66 : decode cX4_readsWind 66 = .ok (.invokevirtual 136, 3) := by decide +kernel
theorem dX4_readsWind_69 : decode cX4_readsWind 69 = .ok (.ireturn, 1) := by decide +kernel
set_option maxRecDepth 20000 in
theorem ggX4_readsFloe_X4_number : GoodIn wsX4_readsFloe wsX4_number := goodIn_r _ [8, 9, 10, 11, 3, 12, 13, 14, 7, 15, 16, 17, 18, 19, 20, 21, 22, 23, 24, 25, 30, 31, 32, 33, 34, 35, 36, 37, 38, 39, 40, 41, 42, 43, 44, 45, 46, 47, 48, 49, 50, 51, 52, 53, 54, 55, 56, 57, 58, 59] (by decide +kernel) (by decide +kernel)
set_option maxRecDepth 20000 in
theorem gX4_readsFloe_X4_number : GoodIn wsX4_readsFloe (wsV RX4 132 RX4 yX4_number wsX4_number) := goodIn_app (goodIn_of _ (by decide +kernel)) ggX4_readsFloe_X4_number
set_option maxRecDepth 20000 in
theorem ggX4_readsFloe_X4_ends : GoodIn wsX4_readsFloe wsX4_ends := goodIn_r _ [29, 9, 12, 13, 14, 7, 15, 16, 17, 18, 19, 10, 11, 30, 31, 32, 33, 34, 35, 36, 37, 38, 39, 40, 41, 42, 43, 44, 45, 46, 47, 48, 49, 50, 51, 52, 53, 54, 55, 56, 57, 58, 59] (by decide +kernel) (by decide +kernel)
set_option maxRecDepth 20000 in
theorem gX4_readsFloe_X4_ends : GoodIn wsX4_readsFloe (wsV RX4 136 RX4 yX4_ends wsX4_ends) := goodIn_app (goodIn_of _ (by decide +kernel)) ggX4_readsFloe_X4_ends
theorem dX4_readsFloe_0 : decode cX4_readsFloe 0 = .ok (.iconst 0, 1) := by decide +kernel
theorem dX4_readsFloe_1 : decode cX4_readsFloe 1 = .ok (.istore_n 1, 1) := by decide +kernel
theorem dX4_readsFloe_2 : decode cX4_readsFloe 2 = .ok (.iload_n 1, 1) := by decide +kernel
theorem dX4_readsFloe_3 : decode cX4_readsFloe 3 = .ok (.iconst 3, 1) := by decide +kernel
theorem dX4_readsFloe_4 : decode cX4_readsFloe 4 = .ok (.if_icmp .ge 56, 3) := by decide +kernel
theorem dX4_readsFloe_7 : decode cX4_readsFloe 7 = .ok (.aload_n 0, 1) := by decide +kernel
theorem dX4_readsFloe_8 : decode cX4_readsFloe 8 = .ok (.iconst 0, 1) := by decide +kernel
theorem dX4_readsFloe_9 : decode cX4_readsFloe 9 = .ok (.iload_n 1, 1) := by decide +kernel
theorem dX4_readsFloe_10 : decode cX4_readsFloe 10 = .ok (.ifCond .ne 7, 3) := by decide +kernel
theorem dX4_readsFloe_13 : decode cX4_readsFloe 13 = .ok (.iconst 5, 1) := by decide +kernel
theorem dX4_readsFloe_14 : decode cX4_readsFloe 14 = .ok (.goto 15, 3) := by decide +kernel
theorem dX4_readsFloe_17 : decode cX4_readsFloe 17 = .ok (.iload_n 1, 1) := by decide +kernel
theorem dX4_readsFloe_18 : decode cX4_readsFloe 18 = .ok (.iconst 1, 1) := by decide +kernel
theorem dX4_readsFloe_19 : decode cX4_readsFloe 19 = .ok (.if_icmp .ne 8, 3) := by decide +kernel
theorem dX4_readsFloe_22 : decode cX4_readsFloe 22 = .ok (.bipush 35, 2) := by decide +kernel
theorem dX4_readsFloe_24 : decode cX4_readsFloe 24 = .ok (.goto 5, 3) := by decide +kernel
theorem dX4_readsFloe_27 : decode cX4_readsFloe 27 = .ok (.bipush 60, 2) := by decide +kernel
theorem dX4_readsFloe_29 : decode cX4_readsFloe 29 = .ok (.invokevirtual 132, 3) := by decide +kernel
theorem dX4_readsFloe_32 : decode cX4_readsFloe 32 = .ok (.ifCond .ne 5, 3) := by decide +kernel
theorem dX4_readsFloe_35 : decode cX4_readsFloe 35 = .ok (.iconst 0, 1) := by decide +kernel
theorem dX4_readsFloe_36 : decode cX4_readsFloe 36 = .ok (.ireturn, 1) := by decide +kernel
theorem dX4_readsFloe_37 : decode cX4_readsFloe 37 = .ok (.aload_n 0, 1) := by decide +kernel
theorem dX4_readsFloe_38 : decode cX4_readsFloe 38 = .ok (.getfield 43, 3) := by decide +kernel
theorem dX4_readsFloe_41 : decode cX4_readsFloe 41 = .ok (.iconst 3, 1) := by decide +kernel
theorem dX4_readsFloe_42 : decode cX4_readsFloe 42 = .ok (.aload_n 0, 1) := by decide +kernel
theorem dX4_readsFloe_43 : decode cX4_readsFloe 43 = .ok (.getfield 140, 3) := by decide +kernel
theorem dX4_readsFloe_46 : decode cX4_readsFloe 46 = .ok (.imul, 1) := by decide +kernel
theorem dX4_readsFloe_47 : decode cX4_readsFloe 47 = .ok (.iload_n 1, 1) := by decide +kernel
theorem dX4_readsFloe_48 : decode cX4_readsFloe 48 = .ok (.iadd, 1) := by decide +kernel
theorem dX4_readsFloe_49 : decode cX4_readsFloe 49 = .ok (.aload_n 0, 1) := by decide +kernel
theorem dX4_readsFloe_50 : decode cX4_readsFloe 50 = .ok (.getfield 129, 3) := by decide +kernel
theorem dX4_readsFloe_53 : decode cX4_readsFloe 53 = .ok (.iastore, 1) := by decide +kernel
theorem dX4_readsFloe_54 : decode cX4_readsFloe 54 = .ok (.iinc 1 1, 3) := by decide +kernel
theorem dX4_readsFloe_57 : decode cX4_readsFloe 57 = .ok (.goto (-55), 3) := by decide +kernel
theorem dX4_readsFloe_60 : decode cX4_readsFloe 60 = .ok (.aload_n 0, 1) := by decide +kernel
theorem dX4_readsFloe_61 : decode cX4_readsFloe 61 = .ok (.dup, 1) := by decide +kernel
theorem dX4_readsFloe_62 : decode cX4_readsFloe 62 = .ok (.getfield 140, 3) := by decide +kernel
theorem dX4_readsFloe_65 : decode cX4_readsFloe 65 = .ok (.iconst 1, 1) := by decide +kernel
theorem dX4_readsFloe_66 : decode cX4_readsFloe 66 = .ok (.iadd, 1) := by decide +kernel
theorem dX4_readsFloe_67 : decode cX4_readsFloe 67 = .ok (.putfield 140, 3) := by decide +kernel
theorem dX4_readsFloe_70 : decode cX4_readsFloe 70 = .ok (.aload_n 0, 1) := by decide +kernel
theorem dX4_readsFloe_71 : decode cX4_readsFloe 71 = .ok (.invokevirtual 136, 3) := by decide +kernel
theorem dX4_readsFloe_74 : decode cX4_readsFloe 74 = .ok (.ireturn, 1) := by decide +kernel
set_option maxRecDepth 20000 in
theorem ggX4_readsItem_X4_wordHere : GoodIn wsX4_readsItem wsX4_wordHere := goodIn_r _ [7, 8, 9, 10, 6, 11, 2, 12, 13, 14, 15, 16, 17, 18, 19, 20, 21, 22, 23, 54, 55, 56, 57, 58, 59, 60, 61, 62, 63, 64, 65, 66, 67, 68, 69, 70, 71, 72, 73, 74, 75, 76, 77, 78, 79, 80, 81, 82, 83] (by decide +kernel) (by decide +kernel)
set_option maxRecDepth 20000 in
theorem gX4_readsItem_X4_wordHere : GoodIn wsX4_readsItem (wsV RX4 143 RX4 yX4_wordHere wsX4_wordHere) := goodIn_app (goodIn_of _ (by decide +kernel)) ggX4_readsItem_X4_wordHere
set_option maxRecDepth 20000 in
theorem ggX4_readsItem_X4_readsWind : GoodIn wsX4_readsItem wsX4_readsWind := goodIn_r _ [27, 28, 29, 30, 31, 32, 6, 33, 2, 12, 13, 34, 35, 36, 37, 38, 39, 40, 41, 42, 43, 44, 17, 18, 19, 45, 46, 47, 48, 54, 55, 56, 57, 58, 59, 60, 61, 62, 63, 64, 65, 66, 67, 68, 69, 70, 71, 72, 73, 74, 75, 76, 77, 78, 79, 80, 81, 82, 83] (by decide +kernel) (by decide +kernel)
set_option maxRecDepth 20000 in
theorem gX4_readsItem_X4_readsWind : GoodIn wsX4_readsItem (wsV RX4 146 RX4 yX4_readsWind wsX4_readsWind) := goodIn_app (goodIn_of _ (by decide +kernel)) ggX4_readsItem_X4_readsWind
set_option maxRecDepth 20000 in
theorem ggX4_readsItem_X4_readsFloe : GoodIn wsX4_readsItem wsX4_readsFloe := goodIn_r _ [52, 53, 1, 28, 30, 31, 32, 6, 33, 2, 12, 13, 34, 35, 36, 37, 38, 39, 40, 41, 42, 43, 44, 17, 18, 19, 45, 46, 47, 48, 54, 55, 56, 57, 58, 59, 60, 61, 62, 63, 64, 65, 66, 67, 68, 69, 70, 71, 72, 73, 74, 75, 76, 77, 78, 79, 80, 81, 82, 83] (by decide +kernel) (by decide +kernel)
set_option maxRecDepth 20000 in
theorem gX4_readsItem_X4_readsFloe : GoodIn wsX4_readsItem (wsV RX4 149 RX4 yX4_readsFloe wsX4_readsFloe) := goodIn_app (goodIn_of _ (by decide +kernel)) ggX4_readsItem_X4_readsFloe
theorem dX4_readsItem_0 : decode cX4_readsItem 0 = .ok (.aload_n 0, 1) := by decide +kernel
theorem dX4_readsItem_1 : decode cX4_readsItem 1 = .ok (.invokevirtual 143, 3) := by decide +kernel
theorem dX4_readsItem_4 : decode cX4_readsItem 4 = .ok (.istore_n 1, 1) := by decide +kernel
theorem dX4_readsItem_5 : decode cX4_readsItem 5 = .ok (.iload_n 1, 1) := by decide +kernel
theorem dX4_readsItem_6 : decode cX4_readsItem 6 = .ok (.iconst 1, 1) := by decide +kernel
theorem dX4_readsItem_7 : decode cX4_readsItem 7 = .ok (.if_icmp .lt 16, 3) := by decide +kernel
theorem dX4_readsItem_10 : decode cX4_readsItem 10 = .ok (.iload_n 1, 1) := by decide +kernel
theorem dX4_readsItem_11 : decode cX4_readsItem 11 = .ok (.iconst 2, 1) := by decide +kernel
theorem dX4_readsItem_12 : decode cX4_readsItem 12 = .ok (.if_icmp .ne 13, 3) := by decide +kernel
theorem dX4_readsItem_15 : decode cX4_readsItem 15 = .ok (.aload_n 0, 1) := by decide +kernel
theorem dX4_readsItem_16 : decode cX4_readsItem 16 = .ok (.getfield 140, 3) := by decide +kernel
theorem dX4_readsItem_19 : decode cX4_readsItem 19 = .ok (.iconst 5, 1) := by decide +kernel
theorem dX4_readsItem_20 : decode cX4_readsItem 20 = .ok (.if_icmp .ne 5, 3) := by decide +kernel
theorem dX4_readsItem_23 : decode cX4_readsItem 23 = .ok (.iconst 0, 1) := by decide +kernel
theorem dX4_readsItem_24 : decode cX4_readsItem 24 = .ok (.ireturn, 1) := by decide +kernel
theorem dX4_readsItem_25 : decode cX4_readsItem 25 = .ok (.aload_n 0, 1) := by decide +kernel
theorem dX4_readsItem_26 : decode cX4_readsItem 26 = .ok (.dup, 1) := by decide +kernel
theorem dX4_readsItem_27 : decode cX4_readsItem 27 = .ok (.getfield 107, 3) := by decide +kernel
theorem dX4_readsItem_30 : decode cX4_readsItem 30 = .ok (.iconst 4, 1) := by decide +kernel
theorem dX4_readsItem_31 : decode cX4_readsItem 31 = .ok (.iadd, 1) := by decide +kernel
theorem dX4_readsItem_32 : decode cX4_readsItem 32 = .ok (.putfield 107, 3) := by decide +kernel
theorem dX4_readsItem_35 : decode cX4_readsItem 35 = .ok (.iload_n 1, 1) := by decide +kernel
theorem dX4_readsItem_36 : decode cX4_readsItem 36 = .ok (.iconst 1, 1) := by decide +kernel
theorem dX4_readsItem_37 : decode cX4_readsItem 37 = .ok (.if_icmp .ne 10, 3) := by decide +kernel
theorem dX4_readsItem_40 : decode cX4_readsItem 40 = .ok (.aload_n 0, 1) := by decide +kernel
theorem dX4_readsItem_41 : decode cX4_readsItem 41 = .ok (.invokevirtual 146, 3) := by decide +kernel
theorem dX4_readsItem_44 : decode cX4_readsItem 44 = .ok (.goto 7, 3) := by decide +kernel
theorem dX4_readsItem_47 : decode cX4_readsItem 47 = .ok (.aload_n 0, 1) := by decide +kernel
theorem dX4_readsItem_48 : decode cX4_readsItem 48 = .ok (.invokevirtual 149, 3) := by decide +kernel
theorem dX4_readsItem_51 : decode cX4_readsItem 51 = .ok (.ireturn, 1) := by decide +kernel
set_option maxRecDepth 20000 in
theorem ggX4_readsFirst_X4_skip : GoodIn wsX4_readsFirst wsX4_skip := goodIn_r _ [8, 1, 9, 10, 11, 7, 12, 13, 14, 44, 45, 46, 47, 48, 49, 50, 51, 52, 53, 54, 55, 56, 57, 58, 59, 60, 61, 62, 63, 64, 65, 66, 67, 68, 69, 70, 71, 72, 73] (by decide +kernel) (by decide +kernel)
set_option maxRecDepth 20000 in
theorem gX4_readsFirst_X4_skip : GoodIn wsX4_readsFirst (wsV RX4 123 RX4 yX4_skip wsX4_skip) := goodIn_app (goodIn_of _ (by decide +kernel)) ggX4_readsFirst_X4_skip
set_option maxRecDepth 20000 in
theorem ggX4_readsFirst_X4_wordHere : GoodIn wsX4_readsFirst wsX4_wordHere := goodIn_r _ [18, 19, 20, 21, 7, 22, 1, 13, 14, 23, 24, 25, 26, 27, 28, 29, 30, 31, 32, 44, 45, 46, 47, 48, 49, 50, 51, 52, 53, 54, 55, 56, 57, 58, 59, 60, 61, 62, 63, 64, 65, 66, 67, 68, 69, 70, 71, 72, 73] (by decide +kernel) (by decide +kernel)
set_option maxRecDepth 20000 in
theorem gX4_readsFirst_X4_wordHere : GoodIn wsX4_readsFirst (wsV RX4 143 RX4 yX4_wordHere wsX4_wordHere) := goodIn_app (goodIn_of _ (by decide +kernel)) ggX4_readsFirst_X4_wordHere
set_option maxRecDepth 20000 in
theorem ggX4_readsFirst_X4_number : GoodIn wsX4_readsFirst wsX4_number := goodIn_r _ [36, 1, 13, 14, 2, 4, 5, 6, 7, 8, 9, 10, 11, 12, 37, 38, 39, 26, 27, 28, 44, 45, 46, 47, 48, 49, 50, 51, 52, 53, 54, 55, 56, 57, 58, 59, 60, 61, 62, 63, 64, 65, 66, 67, 68, 69, 70, 71, 72, 73] (by decide +kernel) (by decide +kernel)
set_option maxRecDepth 20000 in
theorem gX4_readsFirst_X4_number : GoodIn wsX4_readsFirst (wsV RX4 132 RX4 yX4_number wsX4_number) := goodIn_app (goodIn_of _ (by decide +kernel)) ggX4_readsFirst_X4_number
set_option maxRecDepth 20000 in
theorem ggX4_readsFirst_X4_ends : GoodIn wsX4_readsFirst wsX4_ends := goodIn_r _ [43, 1, 4, 5, 6, 7, 8, 9, 10, 11, 12, 13, 14, 44, 45, 46, 47, 48, 49, 50, 51, 52, 53, 54, 55, 56, 57, 58, 59, 60, 61, 62, 63, 64, 65, 66, 67, 68, 69, 70, 71, 72, 73] (by decide +kernel) (by decide +kernel)
set_option maxRecDepth 20000 in
theorem gX4_readsFirst_X4_ends : GoodIn wsX4_readsFirst (wsV RX4 136 RX4 yX4_ends wsX4_ends) := goodIn_app (goodIn_of _ (by decide +kernel)) ggX4_readsFirst_X4_ends
theorem dX4_readsFirst_0 : decode cX4_readsFirst 0 = .ok (.aload_n 0, 1) := by decide +kernel
theorem dX4_readsFirst_1 : decode cX4_readsFirst 1 = .ok (.invokevirtual 123, 3) := by decide +kernel
theorem dX4_readsFirst_4 : decode cX4_readsFirst 4 = .ok (.aload_n 0, 1) := by decide +kernel
theorem dX4_readsFirst_5 : decode cX4_readsFirst 5 = .ok (.invokevirtual 143, 3) := by decide +kernel
theorem dX4_readsFirst_8 : decode cX4_readsFirst 8 = .ok (.ifCond .eq 5, 3) := by decide +kernel
theorem dX4_readsFirst_11 : decode cX4_readsFirst 11 = .ok (.iconst 0, 1) := by decide +kernel
theorem dX4_readsFirst_12 : decode cX4_readsFirst 12 = .ok (.ireturn, 1) := by decide +kernel
theorem dX4_readsFirst_13 : decode cX4_readsFirst 13 = .ok (.aload_n 0, 1) := by decide +kernel
theorem dX4_readsFirst_14 : decode cX4_readsFirst 14 = .ok (.dup, 1) := by decide +kernel
theorem dX4_readsFirst_15 : decode cX4_readsFirst 15 = .ok (.getfield 107, 3) := by decide +kernel
theorem dX4_readsFirst_18 : decode cX4_readsFirst 18 = .ok (.iconst 3, 1) := by decide +kernel
theorem dX4_readsFirst_19 : decode cX4_readsFirst 19 = .ok (.iadd, 1) := by decide +kernel
theorem dX4_readsFirst_20 : decode cX4_readsFirst 20 = .ok (.putfield 107, 3) := by decide +kernel
theorem dX4_readsFirst_23 : decode cX4_readsFirst 23 = .ok (.aload_n 0, 1) := by decide +kernel
theorem dX4_readsFirst_24 : decode cX4_readsFirst 24 = .ok (.iconst 0, 1) := by decide +kernel
theorem dX4_readsFirst_25 : decode cX4_readsFirst 25 = .ok (.bipush 99, 2) := by decide +kernel
theorem dX4_readsFirst_27 : decode cX4_readsFirst 27 = .ok (.invokevirtual 132, 3) := by decide +kernel
theorem dX4_readsFirst_30 : decode cX4_readsFirst 30 = .ok (.ifCond .ne 5, 3) := by decide +kernel
theorem dX4_readsFirst_33 : decode cX4_readsFirst 33 = .ok (.iconst 0, 1) := by decide +kernel
theorem dX4_readsFirst_34 : decode cX4_readsFirst 34 = .ok (.ireturn, 1) := by decide +kernel
theorem dX4_readsFirst_35 : decode cX4_readsFirst 35 = .ok (.aload_n 0, 1) := by decide +kernel
theorem dX4_readsFirst_36 : decode cX4_readsFirst 36 = .ok (.aload_n 0, 1) := by decide +kernel
theorem dX4_readsFirst_37 : decode cX4_readsFirst 37 = .ok (.getfield 129, 3) := by decide +kernel
theorem dX4_readsFirst_40 : decode cX4_readsFirst 40 = .ok (.putfield 152, 3) := by decide +kernel
theorem dX4_readsFirst_43 : decode cX4_readsFirst 43 = .ok (.aload_n 0, 1) := by decide +kernel
theorem dX4_readsFirst_44 : decode cX4_readsFirst 44 = .ok (.invokevirtual 136, 3) := by decide +kernel
theorem dX4_readsFirst_47 : decode cX4_readsFirst 47 = .ok (.ireturn, 1) := by decide +kernel
set_option maxRecDepth 20000 in
theorem ggX4_readsSea_X4_readsFirst : GoodIn wsX4_readsSea wsX4_readsFirst := goodIn_r _ [9, 1, 10, 11, 12, 13, 14, 8, 15, 16, 17, 18, 19, 4, 20, 21, 22, 23, 24, 25, 26, 27, 28, 29, 30, 31, 32, 33, 34, 35, 36, 37, 38, 39, 40, 41, 42, 43, 44, 45, 46, 47, 48, 49, 63, 64, 65, 66, 67, 68, 69, 70, 71, 72, 73, 74, 75, 76, 77, 78, 79, 80, 81, 82, 83, 84, 85, 86, 87, 88, 89, 90, 91, 92] (by decide +kernel) (by decide +kernel)
set_option maxRecDepth 20000 in
theorem gX4_readsSea_X4_readsFirst : GoodIn wsX4_readsSea (wsV RX4 155 RX4 yX4_readsFirst wsX4_readsFirst) := goodIn_app (goodIn_of _ (by decide +kernel)) ggX4_readsSea_X4_readsFirst
set_option maxRecDepth 20000 in
theorem ggX4_readsSea_X4_skip : GoodIn wsX4_readsSea wsX4_skip := goodIn_r _ [15, 1, 16, 17, 18, 8, 19, 4, 20, 63, 64, 65, 66, 67, 68, 69, 70, 71, 72, 73, 74, 75, 76, 77, 78, 79, 80, 81, 82, 83, 84, 85, 86, 87, 88, 89, 90, 91, 92] (by decide +kernel) (by decide +kernel)
set_option maxRecDepth 20000 in
theorem gX4_readsSea_X4_skip : GoodIn wsX4_readsSea (wsV RX4 123 RX4 yX4_skip wsX4_skip) := goodIn_app (goodIn_of _ (by decide +kernel)) ggX4_readsSea_X4_skip
set_option maxRecDepth 20000 in
theorem ggX4_readsSea_X4_readsItem : GoodIn wsX4_readsSea wsX4_readsItem := goodIn_r _ [53, 2, 1, 21, 22, 23, 8, 24, 25, 26, 27, 28, 4, 20, 29, 30, 31, 32, 33, 34, 35, 36, 37, 38, 54, 55, 56, 57, 10, 3, 39, 40, 41, 42, 12, 13, 14, 15, 16, 17, 18, 19, 43, 44, 45, 46, 47, 48, 49, 58, 59, 60, 61, 62, 63, 64, 65, 66, 67, 68, 69, 70, 71, 72, 73, 74, 75, 76, 77, 78, 79, 80, 81, 82, 83, 84, 85, 86, 87, 88, 89, 90, 91, 92] (by decide +kernel) (by decide +kernel)
set_option maxRecDepth 20000 in
theorem gX4_readsSea_X4_readsItem : GoodIn wsX4_readsSea (wsV RX4 158 RX4 yX4_readsItem wsX4_readsItem) := goodIn_app (goodIn_of _ (by decide +kernel)) ggX4_readsSea_X4_readsItem
theorem dX4_readsSea_0 : decode cX4_readsSea 0 = .ok (.aload_n 0, 1) := by decide +kernel
theorem dX4_readsSea_1 : decode cX4_readsSea 1 = .ok (.iconst 0, 1) := by decide +kernel
theorem dX4_readsSea_2 : decode cX4_readsSea 2 = .ok (.putfield 107, 3) := by decide +kernel
theorem dX4_readsSea_5 : decode cX4_readsSea 5 = .ok (.aload_n 0, 1) := by decide +kernel
theorem dX4_readsSea_6 : decode cX4_readsSea 6 = .ok (.iconst 0, 1) := by decide +kernel
theorem dX4_readsSea_7 : decode cX4_readsSea 7 = .ok (.putfield 140, 3) := by decide +kernel
theorem dX4_readsSea_10 : decode cX4_readsSea 10 = .ok (.iconst 0, 1) := by decide +kernel
theorem dX4_readsSea_11 : decode cX4_readsSea 11 = .ok (.istore_n 1, 1) := by decide +kernel
theorem dX4_readsSea_12 : decode cX4_readsSea 12 = .ok (.iload_n 1, 1) := by decide +kernel
theorem dX4_readsSea_13 : decode cX4_readsSea 13 = .ok (.bipush 12, 2) := by decide +kernel
theorem dX4_readsSea_15 : decode cX4_readsSea 15 = .ok (.if_icmp .ge 29, 3) := by decide +kernel
theorem dX4_readsSea_18 : decode cX4_readsSea 18 = .ok (.aload_n 0, 1) := by decide +kernel
theorem dX4_readsSea_19 : decode cX4_readsSea 19 = .ok (.getfield 46, 3) := by decide +kernel
theorem dX4_readsSea_22 : decode cX4_readsSea 22 = .ok (.iconst 2, 1) := by decide +kernel
theorem dX4_readsSea_23 : decode cX4_readsSea 23 = .ok (.iload_n 1, 1) := by decide +kernel
theorem dX4_readsSea_24 : decode cX4_readsSea 24 = .ok (.imul, 1) := by decide +kernel
theorem dX4_readsSea_25 : decode cX4_readsSea 25 = .ok (.iconst 0, 1) := by decide +kernel
theorem dX4_readsSea_26 : decode cX4_readsSea 26 = .ok (.iastore, 1) := by decide +kernel
theorem dX4_readsSea_27 : decode cX4_readsSea 27 = .ok (.aload_n 0, 1) := by decide +kernel
theorem dX4_readsSea_28 : decode cX4_readsSea 28 = .ok (.getfield 46, 3) := by decide +kernel
theorem dX4_readsSea_31 : decode cX4_readsSea 31 = .ok (.iconst 2, 1) := by decide +kernel
theorem dX4_readsSea_32 : decode cX4_readsSea 32 = .ok (.iload_n 1, 1) := by decide +kernel
theorem dX4_readsSea_33 : decode cX4_readsSea 33 = .ok (.imul, 1) := by decide +kernel
theorem dX4_readsSea_34 : decode cX4_readsSea 34 = .ok (.iconst 1, 1) := by decide +kernel
theorem dX4_readsSea_35 : decode cX4_readsSea 35 = .ok (.iadd, 1) := by decide +kernel
theorem dX4_readsSea_36 : decode cX4_readsSea 36 = .ok (.iconst 1, 1) := by decide +kernel
theorem dX4_readsSea_37 : decode cX4_readsSea 37 = .ok (.iastore, 1) := by decide +kernel
theorem dX4_readsSea_38 : decode cX4_readsSea 38 = .ok (.iinc 1 1, 3) := by decide +kernel
theorem dX4_readsSea_41 : decode cX4_readsSea 41 = .ok (.goto (-29), 3) := by decide +kernel
theorem dX4_readsSea_44 : decode cX4_readsSea 44 = .ok (.aload_n 0, 1) := by decide +kernel
theorem dX4_readsSea_45 : decode cX4_readsSea 45 = .ok (.invokevirtual 155, 3) := by decide +kernel
theorem dX4_readsSea_48 : decode cX4_readsSea 48 = .ok (.ifCond .ne 5, 3) := by decide +kernel
theorem dX4_readsSea_51 : decode cX4_readsSea 51 = .ok (.iconst (-1), 1) := by decide +kernel
theorem dX4_readsSea_52 : decode cX4_readsSea 52 = .ok (.ireturn, 1) := by decide +kernel
theorem dX4_readsSea_53 : decode cX4_readsSea 53 = .ok (.iconst 1, 1) := by decide +kernel
theorem dX4_readsSea_54 : decode cX4_readsSea 54 = .ok (.istore_n 1, 1) := by decide +kernel
theorem dX4_readsSea_55 : decode cX4_readsSea 55 = .ok (.aload_n 0, 1) := by decide +kernel
theorem dX4_readsSea_56 : decode cX4_readsSea 56 = .ok (.invokevirtual 123, 3) := by decide +kernel
theorem dX4_readsSea_59 : decode cX4_readsSea 59 = .ok (.aload_n 0, 1) := by decide +kernel
theorem dX4_readsSea_60 : decode cX4_readsSea 60 = .ok (.getfield 107, 3) := by decide +kernel
theorem dX4_readsSea_63 : decode cX4_readsSea 63 = .ok (.aload_n 0, 1) := by decide +kernel
theorem dX4_readsSea_64 : decode cX4_readsSea 64 = .ok (.getfield 104, 3) := by decide +kernel
theorem dX4_readsSea_67 : decode cX4_readsSea 67 = .ok (.if_icmp .ge 22, 3) := by decide +kernel
theorem dX4_readsSea_70 : decode cX4_readsSea 70 = .ok (.aload_n 0, 1) := by decide +kernel
theorem dX4_readsSea_71 : decode cX4_readsSea 71 = .ok (.invokevirtual 158, 3) := by decide +kernel
theorem dX4_readsSea_74 : decode cX4_readsSea 74 = .ok (.ifCond .ne 5, 3) := by decide +kernel
theorem dX4_readsSea_77 : decode cX4_readsSea 77 = .ok (.iconst (-1), 1) := by decide +kernel
theorem dX4_readsSea_78 : decode cX4_readsSea 78 = .ok (.ireturn, 1) := by decide +kernel
theorem dX4_readsSea_79 : decode cX4_readsSea 79 = .ok (.iinc 1 1, 3) := by decide +kernel
theorem dX4_readsSea_82 : decode cX4_readsSea 82 = .ok (.aload_n 0, 1) := by decide +kernel
theorem dX4_readsSea_83 : decode cX4_readsSea 83 = .ok (.invokevirtual 123, 3) := by decide +kernel
theorem dX4_readsSea_86 : decode cX4_readsSea 86 = .ok (.goto (-27), 3) := by decide +kernel
theorem dX4_readsSea_89 : decode cX4_readsSea 89 = .ok (.iload_n 1, 1) := by decide +kernel
theorem dX4_readsSea_90 : decode cX4_readsSea 90 = .ok (.ireturn, 1) := by decide +kernel
set_option maxRecDepth 20000 in
theorem ggX4_read_X4_readsSea : GoodIn wsX4_read wsX4_readsSea := goodIn_r _ [12, 1, 6, 4, 13, 14, 15, 16, 11, 17, 18, 2, 19, 20, 21, 22, 23, 24, 25, 26, 27, 28, 29, 30, 31, 32, 33, 34, 35, 36, 37, 38, 39, 40, 41, 42, 43, 44, 45, 46, 47, 48, 49, 50, 51, 52, 53, 54, 55, 56, 57, 58, 59, 60, 61, 62, 63, 64, 65, 66, 67, 68, 7, 85, 86, 87, 88, 89, 90, 91, 92, 93, 94, 95, 96, 97, 98, 99, 100, 101, 102, 103, 104, 105, 106, 107, 108, 109, 110, 111, 112, 113, 114] (by decide +kernel) (by decide +kernel)
set_option maxRecDepth 20000 in
theorem gX4_read_X4_readsSea : GoodIn wsX4_read (wsV RX4 161 RX4 yX4_readsSea wsX4_readsSea) := goodIn_app (goodIn_of _ (by decide +kernel)) ggX4_read_X4_readsSea
set_option maxRecDepth 20000 in
theorem ggX4_read_X4_begin : GoodIn wsX4_read wsX4_begin := goodIn_r _ [72, 73, 74, 75, 76, 77, 3, 5, 85, 86, 87, 88, 89, 90, 91, 92, 93, 94, 95, 96, 97, 98, 99, 100, 101, 102, 103, 104, 105, 106, 107, 108, 109, 110, 111, 112, 113, 114] (by decide +kernel) (by decide +kernel)
set_option maxRecDepth 20000 in
theorem gX4_read_X4_begin : GoodIn wsX4_read (wsV RX4 65 RX4 yX4_begin wsX4_begin) := goodIn_app (goodIn_of _ (by decide +kernel)) ggX4_read_X4_begin
set_option maxRecDepth 20000 in
theorem ggX4_read_X4_addFloe : GoodIn wsX4_read wsX4_addFloe := goodIn_r _ [81, 82, 74, 83, 84, 77, 85, 86, 87, 88, 89, 90, 91, 92, 93, 94, 95, 96, 97, 98, 99, 100, 101, 102, 103, 104, 105, 106, 107, 108, 109, 110, 111, 112, 113, 114] (by decide +kernel) (by decide +kernel)
set_option maxRecDepth 20000 in
theorem gX4_read_X4_addFloe : GoodIn wsX4_read (wsV RX4 100 RX4 yX4_addFloe wsX4_addFloe) := goodIn_app (goodIn_of _ (by decide +kernel)) ggX4_read_X4_addFloe
theorem dX4_read_0 : decode cX4_read 0 = .ok (.aload_n 0, 1) := by decide +kernel
theorem dX4_read_1 : decode cX4_read 1 = .ok (.invokevirtual 161, 3) := by decide +kernel
theorem dX4_read_4 : decode cX4_read 4 = .ok (.istore_n 1, 1) := by decide +kernel
theorem dX4_read_5 : decode cX4_read 5 = .ok (.iload_n 1, 1) := by decide +kernel
theorem dX4_read_6 : decode cX4_read 6 = .ok (.ifCond .ge 11, 3) := by decide +kernel
theorem dX4_read_9 : decode cX4_read 9 = .ok (.bipush (-10), 2) := by decide +kernel
theorem dX4_read_11 : decode cX4_read 11 = .ok (.aload_n 0, 1) := by decide +kernel
theorem dX4_read_12 : decode cX4_read 12 = .ok (.getfield 107, 3) := by decide +kernel
theorem dX4_read_15 : decode cX4_read 15 = .ok (.isub, 1) := by decide +kernel
theorem dX4_read_16 : decode cX4_read 16 = .ok (.ireturn, 1) := by decide +kernel
theorem dX4_read_17 : decode cX4_read 17 = .ok (.aload_n 0, 1) := by decide +kernel
theorem dX4_read_18 : decode cX4_read 18 = .ok (.aload_n 0, 1) := by decide +kernel
theorem dX4_read_19 : decode cX4_read 19 = .ok (.getfield 152, 3) := by decide +kernel
theorem dX4_read_22 : decode cX4_read 22 = .ok (.invokevirtual 65, 3) := by decide +kernel
theorem dX4_read_25 : decode cX4_read 25 = .ok (.iconst 0, 1) := by decide +kernel
theorem dX4_read_26 : decode cX4_read 26 = .ok (.istore_n 2, 1) := by decide +kernel
theorem dX4_read_27 : decode cX4_read 27 = .ok (.iload_n 2, 1) := by decide +kernel
theorem dX4_read_28 : decode cX4_read 28 = .ok (.bipush 12, 2) := by decide +kernel
theorem dX4_read_30 : decode cX4_read 30 = .ok (.if_icmp .ge 39, 3) := by decide +kernel
theorem dX4_read_33 : decode cX4_read 33 = .ok (.aload_n 0, 1) := by decide +kernel
theorem dX4_read_34 : decode cX4_read 34 = .ok (.getfield 13, 3) := by decide +kernel
theorem dX4_read_37 : decode cX4_read 37 = .ok (.iload_n 2, 1) := by decide +kernel
theorem dX4_read_38 : decode cX4_read 38 = .ok (.aload_n 0, 1) := by decide +kernel
theorem dX4_read_39 : decode cX4_read 39 = .ok (.getfield 46, 3) := by decide +kernel
theorem dX4_read_42 : decode cX4_read 42 = .ok (.iconst 2, 1) := by decide +kernel
theorem dX4_read_43 : decode cX4_read 43 = .ok (.iload_n 2, 1) := by decide +kernel
theorem dX4_read_44 : decode cX4_read 44 = .ok (.imul, 1) := by decide +kernel
theorem dX4_read_45 : decode cX4_read 45 = .ok (.iaload, 1) := by decide +kernel
theorem dX4_read_46 : decode cX4_read 46 = .ok (.iastore, 1) := by decide +kernel
theorem dX4_read_47 : decode cX4_read 47 = .ok (.aload_n 0, 1) := by decide +kernel
theorem dX4_read_48 : decode cX4_read 48 = .ok (.getfield 16, 3) := by decide +kernel
theorem dX4_read_51 : decode cX4_read 51 = .ok (.iload_n 2, 1) := by decide +kernel
theorem dX4_read_52 : decode cX4_read 52 = .ok (.aload_n 0, 1) := by decide +kernel
theorem dX4_read_53 : decode cX4_read 53 = .ok (.getfield 46, 3) := by decide +kernel
theorem dX4_read_56 : decode cX4_read 56 = .ok (.iconst 2, 1) := by decide +kernel
theorem dX4_read_57 : decode cX4_read 57 = .ok (.iload_n 2, 1) := by decide +kernel
theorem dX4_read_58 : decode cX4_read 58 = .ok (.imul, 1) := by decide +kernel
theorem dX4_read_59 : decode cX4_read 59 = .ok (.iconst 1, 1) := by decide +kernel
theorem dX4_read_60 : decode cX4_read 60 = .ok (.iadd, 1) := by decide +kernel
theorem dX4_read_61 : decode cX4_read 61 = .ok (.iaload, 1) := by decide +kernel
theorem dX4_read_62 : decode cX4_read 62 = .ok (.iastore, 1) := by decide +kernel
theorem dX4_read_63 : decode cX4_read 63 = .ok (.iinc 2 1, 3) := by decide +kernel
theorem dX4_read_66 : decode cX4_read 66 = .ok (.goto (-39), 3) := by decide +kernel
theorem dX4_read_69 : decode cX4_read 69 = .ok (.iconst 0, 1) := by decide +kernel
theorem dX4_read_70 : decode cX4_read 70 = .ok (.istore_n 2, 1) := by decide +kernel
theorem dX4_read_71 : decode cX4_read 71 = .ok (.iload_n 2, 1) := by decide +kernel
theorem dX4_read_72 : decode cX4_read 72 = .ok (.aload_n 0, 1) := by decide +kernel
theorem dX4_read_73 : decode cX4_read 73 = .ok (.getfield 140, 3) := by decide +kernel
theorem dX4_read_76 : decode cX4_read 76 = .ok (.if_icmp .ge 42, 3) := by decide +kernel
theorem dX4_read_79 : decode cX4_read 79 = .ok (.aload_n 0, 1) := by decide +kernel
theorem dX4_read_80 : decode cX4_read 80 = .ok (.aload_n 0, 1) := by decide +kernel
theorem dX4_read_81 : decode cX4_read 81 = .ok (.getfield 43, 3) := by decide +kernel
theorem dX4_read_84 : decode cX4_read 84 = .ok (.iconst 3, 1) := by decide +kernel
theorem dX4_read_85 : decode cX4_read 85 = .ok (.iload_n 2, 1) := by decide +kernel
theorem dX4_read_86 : decode cX4_read 86 = .ok (.imul, 1) := by decide +kernel
theorem dX4_read_87 : decode cX4_read 87 = .ok (.iaload, 1) := by decide +kernel
theorem dX4_read_88 : decode cX4_read 88 = .ok (.aload_n 0, 1) := by decide +kernel
theorem dX4_read_89 : decode cX4_read 89 = .ok (.getfield 43, 3) := by decide +kernel
theorem dX4_read_92 : decode cX4_read 92 = .ok (.iconst 3, 1) := by decide +kernel
theorem dX4_read_93 : decode cX4_read 93 = .ok (.iload_n 2, 1) := by decide +kernel
theorem dX4_read_94 : decode cX4_read 94 = .ok (.imul, 1) := by decide +kernel
theorem dX4_read_95 : decode cX4_read 95 = .ok (.iconst 1, 1) := by decide +kernel
theorem dX4_read_96 : decode cX4_read 96 = .ok (.iadd, 1) := by decide +kernel
theorem dX4_read_97 : decode cX4_read 97 = .ok (.iaload, 1) := by decide +kernel
theorem dX4_read_98 : decode cX4_read 98 = .ok (.aload_n 0, 1) := by decide +kernel
theorem dX4_read_99 : decode cX4_read 99 = .ok (.getfield 43, 3) := by decide +kernel
theorem dX4_read_102 : decode cX4_read 102 = .ok (.iconst 3, 1) := by decide +kernel
theorem dX4_read_103 : decode cX4_read 103 = .ok (.iload_n 2, 1) := by decide +kernel
theorem dX4_read_104 : decode cX4_read 104 = .ok (.imul, 1) := by decide +kernel
theorem dX4_read_105 : decode cX4_read 105 = .ok (.iconst 2, 1) := by decide +kernel
theorem dX4_read_106 : decode cX4_read 106 = .ok (.iadd, 1) := by decide +kernel
theorem dX4_read_107 : decode cX4_read 107 = .ok (.iaload, 1) := by decide +kernel
theorem dX4_read_108 : decode cX4_read 108 = .ok (.invokevirtual 100, 3) := by decide +kernel
theorem dX4_read_111 : decode cX4_read 111 = .ok (.pop, 1) := by decide +kernel
theorem dX4_read_112 : decode cX4_read 112 = .ok (.iinc 2 1, 3) := by decide +kernel
theorem dX4_read_115 : decode cX4_read 115 = .ok (.goto (-44), 3) := by decide +kernel
theorem dX4_read_118 : decode cX4_read 118 = .ok (.iload_n 1, 1) := by decide +kernel
theorem dX4_read_119 : decode cX4_read 119 = .ok (.ireturn, 1) := by decide +kernel
theorem dX4_wayBy_0 : decode cX4_wayBy 0 = .ok (.iload_n 1, 1) := by decide +kernel
theorem dX4_wayBy_1 : decode cX4_wayBy 1 = .ok (.iconst 2, 1) := by decide +kernel
theorem dX4_wayBy_2 : decode cX4_wayBy 2 = .ok (.irem, 1) := by decide +kernel
theorem dX4_wayBy_3 : decode cX4_wayBy 3 = .ok (.iconst 1, 1) := by decide +kernel
theorem dX4_wayBy_4 : decode cX4_wayBy 4 = .ok (.if_icmp .ne 11, 3) := by decide +kernel
theorem dX4_wayBy_7 : decode cX4_wayBy 7 = .ok (.iload_n 2, 1) := by decide +kernel
theorem dX4_wayBy_8 : decode cX4_wayBy 8 = .ok (.iconst 1, 1) := by decide +kernel
theorem dX4_wayBy_9 : decode cX4_wayBy 9 = .ok (.iadd, 1) := by decide +kernel
theorem dX4_wayBy_10 : decode cX4_wayBy 10 = .ok (.iconst 4, 1) := by decide +kernel
theorem dX4_wayBy_11 : decode cX4_wayBy 11 = .ok (.irem, 1) := by decide +kernel
theorem dX4_wayBy_12 : decode cX4_wayBy 12 = .ok (.goto 4, 3) := by decide +kernel
theorem dX4_wayBy_15 : decode cX4_wayBy 15 = .ok (.iload_n 2, 1) := by decide +kernel
theorem dX4_wayBy_16 : decode cX4_wayBy 16 = .ok (.istore_n 3, 1) := by decide +kernel
theorem dX4_wayBy_17 : decode cX4_wayBy 17 = .ok (.iload_n 0, 1) := by decide +kernel
theorem dX4_wayBy_18 : decode cX4_wayBy 18 = .ok (.lookupswitch 44 #[(2, 26), (4, 28)], 26) := by decide +kernel
theorem dX4_wayBy_44 : decode cX4_wayBy 44 = .ok (.iload_n 3, 1) := by decide +kernel
theorem dX4_wayBy_45 : decode cX4_wayBy 45 = .ok (.ireturn, 1) := by decide +kernel
theorem dX4_wayBy_46 : decode cX4_wayBy 46 = .ok (.iload_n 1, 1) := by decide +kernel
theorem dX4_wayBy_47 : decode cX4_wayBy 47 = .ok (.iconst 3, 1) := by decide +kernel
theorem dX4_wayBy_48 : decode cX4_wayBy 48 = .ok (.irem, 1) := by decide +kernel
theorem dX4_wayBy_49 : decode cX4_wayBy 49 = .ok (.ifCond .ne 11, 3) := by decide +kernel
theorem dX4_wayBy_52 : decode cX4_wayBy 52 = .ok (.iload_n 3, 1) := by decide +kernel
theorem dX4_wayBy_53 : decode cX4_wayBy 53 = .ok (.iconst 2, 1) := by decide +kernel
theorem dX4_wayBy_54 : decode cX4_wayBy 54 = .ok (.iadd, 1) := by decide +kernel
theorem dX4_wayBy_55 : decode cX4_wayBy 55 = .ok (.iconst 4, 1) := by decide +kernel
theorem dX4_wayBy_56 : decode cX4_wayBy 56 = .ok (.irem, 1) := by decide +kernel
theorem dX4_wayBy_57 : decode cX4_wayBy 57 = .ok (.goto 4, 3) := by decide +kernel
theorem dX4_wayBy_60 : decode cX4_wayBy 60 = .ok (.iload_n 3, 1) := by decide +kernel
theorem dX4_wayBy_61 : decode cX4_wayBy 61 = .ok (.ireturn, 1) := by decide +kernel
theorem dX4_wayBy_62 : decode cX4_wayBy 62 = .ok (.iload_n 2, 1) := by decide +kernel
theorem dX4_wayBy_63 : decode cX4_wayBy 63 = .ok (.ireturn, 1) := by decide +kernel
theorem dX4_stepsBy_0 : decode cX4_stepsBy 0 = .ok (.iload_n 1, 1) := by decide +kernel
theorem dX4_stepsBy_1 : decode cX4_stepsBy 1 = .ok (.ifCond .le 7, 3) := by decide +kernel
theorem dX4_stepsBy_4 : decode cX4_stepsBy 4 = .ok (.iconst 1, 1) := by decide +kernel
theorem dX4_stepsBy_5 : decode cX4_stepsBy 5 = .ok (.goto 4, 3) := by decide +kernel
theorem dX4_stepsBy_8 : decode cX4_stepsBy 8 = .ok (.iconst 0, 1) := by decide +kernel
theorem dX4_stepsBy_9 : decode cX4_stepsBy 9 = .ok (.istore_n 3, 1) := by decide +kernel
theorem dX4_stepsBy_10 : decode cX4_stepsBy 10 = .ok (.iload_n 1, 1) := by decide +kernel
theorem dX4_stepsBy_11 : decode cX4_stepsBy 11 = .ok (.iconst 3, 1) := by decide +kernel
theorem dX4_stepsBy_12 : decode cX4_stepsBy 12 = .ok (.if_icmp .ne 7, 3) := by decide +kernel
theorem dX4_stepsBy_15 : decode cX4_stepsBy 15 = .ok (.iconst 2, 1) := by decide +kernel
theorem dX4_stepsBy_16 : decode cX4_stepsBy 16 = .ok (.goto 4, 3) := by decide +kernel
theorem dX4_stepsBy_19 : decode cX4_stepsBy 19 = .ok (.iload_n 3, 1) := by decide +kernel
theorem dX4_stepsBy_20 : decode cX4_stepsBy 20 = .ok (.istore 4, 2) := by decide +kernel
theorem dX4_stepsBy_22 : decode cX4_stepsBy 22 = .ok (.iload_n 0, 1) := by decide +kernel
theorem dX4_stepsBy_23 : decode cX4_stepsBy 23 = .ok (.tableswitch 72 1 5 #[33, 72, 36, 72, 52], 33) := by decide +kernel
theorem dX4_stepsBy_56 : decode cX4_stepsBy 56 = .ok (.iload 4, 2) := by decide +kernel
theorem dX4_stepsBy_58 : decode cX4_stepsBy 58 = .ok (.ireturn, 1) := by decide +kernel
theorem dX4_stepsBy_59 : decode cX4_stepsBy 59 = .ok (.iload_n 2, 1) := by decide +kernel
theorem dX4_stepsBy_60 : decode cX4_stepsBy 60 = .ok (.iconst 1, 1) := by decide +kernel
theorem dX4_stepsBy_61 : decode cX4_stepsBy 61 = .ok (.if_icmp .gt 12, 3) := by decide +kernel
theorem dX4_stepsBy_64 : decode cX4_stepsBy 64 = .ok (.iload_n 1, 1) := by decide +kernel
theorem dX4_stepsBy_65 : decode cX4_stepsBy 65 = .ok (.iconst 2, 1) := by decide +kernel
theorem dX4_stepsBy_66 : decode cX4_stepsBy 66 = .ok (.if_icmp .ge 7, 3) := by decide +kernel
theorem dX4_stepsBy_69 : decode cX4_stepsBy 69 = .ok (.iconst 0, 1) := by decide +kernel
theorem dX4_stepsBy_70 : decode cX4_stepsBy 70 = .ok (.goto 4, 3) := by decide +kernel
theorem dX4_stepsBy_73 : decode cX4_stepsBy 73 = .ok (.iload_n 3, 1) := by decide +kernel
theorem dX4_stepsBy_74 : decode cX4_stepsBy 74 = .ok (.ireturn, 1) := by decide +kernel
theorem dX4_stepsBy_75 : decode cX4_stepsBy 75 = .ok (.iload_n 2, 1) := by decide +kernel
theorem dX4_stepsBy_76 : decode cX4_stepsBy 76 = .ok (.iconst 3, 1) := by decide +kernel
theorem dX4_stepsBy_77 : decode cX4_stepsBy 77 = .ok (.if_icmp .lt 15, 3) := by decide +kernel
theorem dX4_stepsBy_80 : decode cX4_stepsBy 80 = .ok (.iload 4, 2) := by decide +kernel
theorem dX4_stepsBy_82 : decode cX4_stepsBy 82 = .ok (.ifCond .le 10, 3) := by decide +kernel
theorem dX4_stepsBy_85 : decode cX4_stepsBy 85 = .ok (.iload 4, 2) := by decide +kernel
theorem dX4_stepsBy_87 : decode cX4_stepsBy 87 = .ok (.iconst 1, 1) := by decide +kernel
theorem dX4_stepsBy_88 : decode cX4_stepsBy 88 = .ok (.isub, 1) := by decide +kernel
theorem dX4_stepsBy_89 : decode cX4_stepsBy 89 = .ok (.goto 5, 3) := by decide +kernel
theorem dX4_stepsBy_92 : decode cX4_stepsBy 92 = .ok (.iload 4, 2) := by decide +kernel
theorem dX4_stepsBy_94 : decode cX4_stepsBy 94 = .ok (.ireturn, 1) := by decide +kernel
theorem dX4_stepsBy_95 : decode cX4_stepsBy 95 = .ok (.iload_n 3, 1) := by decide +kernel
theorem dX4_stepsBy_96 : decode cX4_stepsBy 96 = .ok (.ireturn, 1) := by decide +kernel
theorem dX4_stepTo_0 : decode cX4_stepTo 0 = .ok (.iload_n 1, 1) := by decide +kernel
theorem dX4_stepTo_1 : decode cX4_stepTo 1 = .ok (.tableswitch 73 0 2 #[27, 43, 58], 27) := by decide +kernel
theorem dX4_stepTo_28 : decode cX4_stepTo 28 = .ok (.iload_n 0, 1) := by decide +kernel
theorem dX4_stepTo_29 : decode cX4_stepTo 29 = .ok (.bipush 6, 2) := by decide +kernel
theorem dX4_stepTo_31 : decode cX4_stepTo 31 = .ok (.irem, 1) := by decide +kernel
theorem dX4_stepTo_32 : decode cX4_stepTo 32 = .ok (.iconst 5, 1) := by decide +kernel
theorem dX4_stepTo_33 : decode cX4_stepTo 33 = .ok (.if_icmp .ge 9, 3) := by decide +kernel
theorem dX4_stepTo_36 : decode cX4_stepTo 36 = .ok (.iload_n 0, 1) := by decide +kernel
theorem dX4_stepTo_37 : decode cX4_stepTo 37 = .ok (.iconst 1, 1) := by decide +kernel
theorem dX4_stepTo_38 : decode cX4_stepTo 38 = .ok (.iadd, 1) := by decide +kernel
theorem dX4_stepTo_39 : decode cX4_stepTo 39 = .ok (.goto 4, 3) := by decide +kernel
theorem dX4_stepTo_42 : decode cX4_stepTo 42 = .ok (.iload_n 0, 1) := by decide +kernel
theorem dX4_stepTo_43 : decode cX4_stepTo 43 = .ok (.ireturn, 1) := by decide +kernel
theorem dX4_stepTo_44 : decode cX4_stepTo 44 = .ok (.iload_n 0, 1) := by decide +kernel
theorem dX4_stepTo_45 : decode cX4_stepTo 45 = .ok (.bipush 30, 2) := by decide +kernel
theorem dX4_stepTo_47 : decode cX4_stepTo 47 = .ok (.if_icmp .ge 10, 3) := by decide +kernel
theorem dX4_stepTo_50 : decode cX4_stepTo 50 = .ok (.iload_n 0, 1) := by decide +kernel
theorem dX4_stepTo_51 : decode cX4_stepTo 51 = .ok (.bipush 6, 2) := by decide +kernel
theorem dX4_stepTo_53 : decode cX4_stepTo 53 = .ok (.iadd, 1) := by decide +kernel
theorem dX4_stepTo_54 : decode cX4_stepTo 54 = .ok (.goto 4, 3) := by decide +kernel
theorem dX4_stepTo_57 : decode cX4_stepTo 57 = .ok (.iload_n 0, 1) := by decide +kernel
theorem dX4_stepTo_58 : decode cX4_stepTo 58 = .ok (.ireturn, 1) := by decide +kernel
theorem dX4_stepTo_59 : decode cX4_stepTo 59 = .ok (.iload_n 0, 1) := by decide +kernel
theorem dX4_stepTo_60 : decode cX4_stepTo 60 = .ok (.bipush 6, 2) := by decide +kernel
theorem dX4_stepTo_62 : decode cX4_stepTo 62 = .ok (.irem, 1) := by decide +kernel
theorem dX4_stepTo_63 : decode cX4_stepTo 63 = .ok (.ifCond .le 9, 3) := by decide +kernel
theorem dX4_stepTo_66 : decode cX4_stepTo 66 = .ok (.iload_n 0, 1) := by decide +kernel
theorem dX4_stepTo_67 : decode cX4_stepTo 67 = .ok (.iconst 1, 1) := by decide +kernel
theorem dX4_stepTo_68 : decode cX4_stepTo 68 = .ok (.isub, 1) := by decide +kernel
theorem dX4_stepTo_69 : decode cX4_stepTo 69 = .ok (.goto 4, 3) := by decide +kernel
theorem dX4_stepTo_72 : decode cX4_stepTo 72 = .ok (.iload_n 0, 1) := by decide +kernel
theorem dX4_stepTo_73 : decode cX4_stepTo 73 = .ok (.ireturn, 1) := by decide +kernel
theorem dX4_stepTo_74 : decode cX4_stepTo 74 = .ok (.iload_n 0, 1) := by decide +kernel
theorem dX4_stepTo_75 : decode cX4_stepTo 75 = .ok (.bipush 6, 2) := by decide +kernel
theorem dX4_stepTo_77 : decode cX4_stepTo 77 = .ok (.if_icmp .lt 10, 3) := by decide +kernel
theorem dX4_stepTo_80 : decode cX4_stepTo 80 = .ok (.iload_n 0, 1) := by decide +kernel
theorem dX4_stepTo_81 : decode cX4_stepTo 81 = .ok (.bipush 6, 2) := by decide +kernel
theorem dX4_stepTo_83 : decode cX4_stepTo 83 = .ok (.isub, 1) := by decide +kernel
theorem dX4_stepTo_84 : decode cX4_stepTo 84 = .ok (.goto 4, 3) := by decide +kernel
theorem dX4_stepTo_87 : decode cX4_stepTo 87 = .ok (.iload_n 0, 1) := by decide +kernel
theorem dX4_stepTo_88 : decode cX4_stepTo 88 = .ok (.ireturn, 1) := by decide +kernel
set_option maxRecDepth 20000 in
theorem ggX4_drifts_X4_wayBy : GoodIn wsX4_drifts wsX4_wayBy := goodIn_r _ [4] (by decide +kernel) (by decide +kernel)
set_option maxRecDepth 20000 in
theorem gX4_drifts_X4_wayBy : GoodIn wsX4_drifts (va_wsS RX4 164 yX4_wayBy wsX4_wayBy) := goodIn_app (goodIn_of _ (by decide +kernel)) ggX4_drifts_X4_wayBy
set_option maxRecDepth 20000 in
theorem ggX4_drifts_X4_stepsBy : GoodIn wsX4_drifts wsX4_stepsBy := goodIn_r _ [7] (by decide +kernel) (by decide +kernel)
set_option maxRecDepth 20000 in
theorem gX4_drifts_X4_stepsBy : GoodIn wsX4_drifts (va_wsS RX4 167 yX4_stepsBy wsX4_stepsBy) := goodIn_app (goodIn_of _ (by decide +kernel)) ggX4_drifts_X4_stepsBy
set_option maxRecDepth 20000 in
theorem ggX4_drifts_X4_stepTo : GoodIn wsX4_drifts wsX4_stepTo := goodIn_r _ [10] (by decide +kernel) (by decide +kernel)
set_option maxRecDepth 20000 in
theorem gX4_drifts_X4_stepTo : GoodIn wsX4_drifts (va_wsS RX4 170 yX4_stepTo wsX4_stepTo) := goodIn_app (goodIn_of _ (by decide +kernel)) ggX4_drifts_X4_stepTo
theorem dX4_drifts_0 : decode cX4_drifts 0 = .ok (.iload_n 0, 1) := by decide +kernel
theorem dX4_drifts_1 : decode cX4_drifts 1 = .ok (.iload_n 2, 1) := by decide +kernel
theorem dX4_drifts_2 : decode cX4_drifts 2 = .ok (.iload_n 3, 1) := by decide +kernel
theorem dX4_drifts_3 : decode cX4_drifts 3 = .ok (.invokestatic 164, 3) := by decide +kernel
theorem dX4_drifts_6 : decode cX4_drifts 6 = .ok (.istore 5, 2) := by decide +kernel
theorem dX4_drifts_8 : decode cX4_drifts 8 = .ok (.iload_n 0, 1) := by decide +kernel
theorem dX4_drifts_9 : decode cX4_drifts 9 = .ok (.iload 4, 2) := by decide +kernel
theorem dX4_drifts_11 : decode cX4_drifts 11 = .ok (.iload_n 1, 1) := by decide +kernel
theorem dX4_drifts_12 : decode cX4_drifts 12 = .ok (.bipush 6, 2) := by decide +kernel
theorem dX4_drifts_14 : decode cX4_drifts 14 = .ok (.irem, 1) := by decide +kernel
theorem dX4_drifts_15 : decode cX4_drifts 15 = .ok (.invokestatic 167, 3) := by decide +kernel
theorem dX4_drifts_18 : decode cX4_drifts 18 = .ok (.istore 6, 2) := by decide +kernel
theorem dX4_drifts_20 : decode cX4_drifts 20 = .ok (.iload_n 1, 1) := by decide +kernel
theorem dX4_drifts_21 : decode cX4_drifts 21 = .ok (.istore 7, 2) := by decide +kernel
theorem dX4_drifts_23 : decode cX4_drifts 23 = .ok (.iload 6, 2) := by decide +kernel
theorem dX4_drifts_25 : decode cX4_drifts 25 = .ok (.ifCond .le 18, 3) := by decide +kernel
theorem dX4_drifts_28 : decode cX4_drifts 28 = .ok (.iload 7, 2) := by decide +kernel
theorem dX4_drifts_30 : decode cX4_drifts 30 = .ok (.iload 5, 2) := by decide +kernel
theorem dX4_drifts_32 : decode cX4_drifts 32 = .ok (.invokestatic 170, 3) := by decide +kernel
theorem dX4_drifts_35 : decode cX4_drifts 35 = .ok (.istore 7, 2) := by decide +kernel
theorem dX4_drifts_37 : decode cX4_drifts 37 = .ok (.iinc 6 (-1), 3) := by decide +kernel
theorem dX4_drifts_40 : decode cX4_drifts 40 = .ok (.goto (-17), 3) := by decide +kernel
theorem dX4_drifts_43 : decode cX4_drifts 43 = .ok (.iload 7, 2) := by decide +kernel
theorem dX4_drifts_45 : decode cX4_drifts 45 = .ok (.ireturn, 1) := by decide +kernel
set_option maxRecDepth 20000 in
theorem ggX4_driftsIn_X4_drifts : GoodIn wsX4_driftsIn wsX4_drifts := goodIn_r _ [6, 7, 8, 5, 9, 10, 11, 12, 13, 14, 15] (by decide +kernel) (by decide +kernel)
set_option maxRecDepth 20000 in
theorem gX4_driftsIn_X4_drifts : GoodIn wsX4_driftsIn (va_wsS RX4 174 yX4_drifts wsX4_drifts) := goodIn_app (goodIn_of _ (by decide +kernel)) ggX4_driftsIn_X4_drifts
theorem dX4_driftsIn_0 : decode cX4_driftsIn 0 = .ok (.iload_n 1, 1) := by decide +kernel
theorem dX4_driftsIn_1 : decode cX4_driftsIn 1 = .ok (.iload_n 2, 1) := by decide +kernel
theorem dX4_driftsIn_2 : decode cX4_driftsIn 2 = .ok (.iload_n 3, 1) := by decide +kernel
theorem dX4_driftsIn_3 : decode cX4_driftsIn 3 = .ok (.aload_n 0, 1) := by decide +kernel
theorem dX4_driftsIn_4 : decode cX4_driftsIn 4 = .ok (.getfield 13, 3) := by decide +kernel
theorem dX4_driftsIn_7 : decode cX4_driftsIn 7 = .ok (.iload_n 3, 1) := by decide +kernel
theorem dX4_driftsIn_8 : decode cX4_driftsIn 8 = .ok (.bipush 12, 2) := by decide +kernel
theorem dX4_driftsIn_10 : decode cX4_driftsIn 10 = .ok (.irem, 1) := by decide +kernel
theorem dX4_driftsIn_11 : decode cX4_driftsIn 11 = .ok (.iaload, 1) := by decide +kernel
theorem dX4_driftsIn_12 : decode cX4_driftsIn 12 = .ok (.aload_n 0, 1) := by decide +kernel
theorem dX4_driftsIn_13 : decode cX4_driftsIn 13 = .ok (.getfield 16, 3) := by decide +kernel
theorem dX4_driftsIn_16 : decode cX4_driftsIn 16 = .ok (.iload_n 3, 1) := by decide +kernel
theorem dX4_driftsIn_17 : decode cX4_driftsIn 17 = .ok (.bipush 12, 2) := by decide +kernel
theorem dX4_driftsIn_19 : decode cX4_driftsIn 19 = .ok (.irem, 1) := by decide +kernel
theorem dX4_driftsIn_20 : decode cX4_driftsIn 20 = .ok (.iaload, 1) := by decide +kernel
theorem dX4_driftsIn_21 : decode cX4_driftsIn 21 = .ok (.invokestatic 174, 3) := by decide +kernel
theorem dX4_driftsIn_24 : decode cX4_driftsIn 24 = .ok (.ireturn, 1) := by decide +kernel
theorem dX4_isOut_0 : decode cX4_isOut 0 = .ok (.iload_n 0, 1) := by decide +kernel
theorem dX4_isOut_1 : decode cX4_isOut 1 = .ok (.bipush 6, 2) := by decide +kernel
theorem dX4_isOut_3 : decode cX4_isOut 3 = .ok (.irem, 1) := by decide +kernel
theorem dX4_isOut_4 : decode cX4_isOut 4 = .ok (.iconst 5, 1) := by decide +kernel
theorem dX4_isOut_5 : decode cX4_isOut 5 = .ok (.if_icmp .ne 7, 3) := by decide +kernel
theorem dX4_isOut_8 : decode cX4_isOut 8 = .ok (.iconst 1, 1) := by decide +kernel
theorem dX4_isOut_9 : decode cX4_isOut 9 = .ok (.goto 4, 3) := by decide +kernel
theorem dX4_isOut_12 : decode cX4_isOut 12 = .ok (.iconst 0, 1) := by decide +kernel
theorem dX4_isOut_13 : decode cX4_isOut 13 = .ok (.ireturn, 1) := by decide +kernel
theorem dX4_far_0 : decode cX4_far 0 = .ok (.iload_n 0, 1) := by decide +kernel
theorem dX4_far_1 : decode cX4_far 1 = .ok (.bipush 6, 2) := by decide +kernel
theorem dX4_far_3 : decode cX4_far 3 = .ok (.idiv, 1) := by decide +kernel
theorem dX4_far_4 : decode cX4_far 4 = .ok (.iload_n 1, 1) := by decide +kernel
theorem dX4_far_5 : decode cX4_far 5 = .ok (.bipush 6, 2) := by decide +kernel
theorem dX4_far_7 : decode cX4_far 7 = .ok (.idiv, 1) := by decide +kernel
theorem dX4_far_8 : decode cX4_far 8 = .ok (.isub, 1) := by decide +kernel
theorem dX4_far_9 : decode cX4_far 9 = .ok (.istore_n 2, 1) := by decide +kernel
theorem dX4_far_10 : decode cX4_far 10 = .ok (.iload_n 0, 1) := by decide +kernel
theorem dX4_far_11 : decode cX4_far 11 = .ok (.bipush 6, 2) := by decide +kernel
theorem dX4_far_13 : decode cX4_far 13 = .ok (.irem, 1) := by decide +kernel
theorem dX4_far_14 : decode cX4_far 14 = .ok (.iload_n 1, 1) := by decide +kernel
theorem dX4_far_15 : decode cX4_far 15 = .ok (.bipush 6, 2) := by decide +kernel
theorem dX4_far_17 : decode cX4_far 17 = .ok (.irem, 1) := by decide +kernel
theorem dX4_far_18 : decode cX4_far 18 = .ok (.isub, 1) := by decide +kernel
theorem dX4_far_19 : decode cX4_far 19 = .ok (.istore_n 3, 1) := by decide +kernel
theorem dX4_far_20 : decode cX4_far 20 = .ok (.iload_n 2, 1) := by decide +kernel
theorem dX4_far_21 : decode cX4_far 21 = .ok (.ifCond .ge 8, 3) := by decide +kernel
theorem dX4_far_24 : decode cX4_far 24 = .ok (.iload_n 2, 1) := by decide +kernel
theorem dX4_far_25 : decode cX4_far 25 = .ok (.ineg, 1) := by decide +kernel
theorem dX4_far_26 : decode cX4_far 26 = .ok (.goto 4, 3) := by decide +kernel
theorem dX4_far_29 : decode cX4_far 29 = .ok (.iload_n 2, 1) := by decide +kernel
theorem dX4_far_30 : decode cX4_far 30 = .ok (.iload_n 3, 1) := by decide +kernel
theorem dX4_far_31 : decode cX4_far 31 = .ok (.ifCond .ge 8, 3) := by decide +kernel
theorem dX4_far_34 : decode cX4_far 34 = .ok (.iload_n 3, 1) := by decide +kernel
theorem dX4_far_35 : decode cX4_far 35 = .ok (.ineg, 1) := by decide +kernel
theorem dX4_far_36 : decode cX4_far 36 = .ok (.goto 4, 3) := by decide +kernel
theorem dX4_far_39 : decode cX4_far 39 = .ok (.iload_n 3, 1) := by decide +kernel
theorem dX4_far_40 : decode cX4_far 40 = .ok (.iadd, 1) := by decide +kernel
theorem dX4_far_41 : decode cX4_far 41 = .ok (.ireturn, 1) := by decide +kernel
set_option maxRecDepth 20000 in
theorem ggX4_pass_X4_driftsIn : GoodIn wsX4_pass wsX4_driftsIn := goodIn_r _ [10, 11, 12, 13, 14, 9, 15, 16, 17, 18, 19, 20, 21, 22, 23, 24, 25, 26, 27, 28, 29, 30, 31, 32, 33, 34, 35, 36, 37, 38, 39, 40, 41, 42, 43, 44, 45, 46, 47, 48, 49, 50, 51, 52, 53, 54] (by decide +kernel) (by decide +kernel)
set_option maxRecDepth 20000 in
theorem gX4_pass_X4_driftsIn : GoodIn wsX4_pass (wsV RX4 178 RX4 yX4_driftsIn wsX4_driftsIn) := goodIn_app (goodIn_of _ (by decide +kernel)) ggX4_pass_X4_driftsIn
theorem dX4_pass_0 : decode cX4_pass 0 = .ok (.iconst 0, 1) := by decide +kernel
theorem dX4_pass_1 : decode cX4_pass 1 = .ok (.istore_n 1, 1) := by decide +kernel
theorem dX4_pass_2 : decode cX4_pass 2 = .ok (.iload_n 1, 1) := by decide +kernel
theorem dX4_pass_3 : decode cX4_pass 3 = .ok (.aload_n 0, 1) := by decide +kernel
theorem dX4_pass_4 : decode cX4_pass 4 = .ok (.getfield 73, 3) := by decide +kernel
theorem dX4_pass_7 : decode cX4_pass 7 = .ok (.if_icmp .ge 58, 3) := by decide +kernel
theorem dX4_pass_10 : decode cX4_pass 10 = .ok (.aload_n 0, 1) := by decide +kernel
theorem dX4_pass_11 : decode cX4_pass 11 = .ok (.getfield 22, 3) := by decide +kernel
theorem dX4_pass_14 : decode cX4_pass 14 = .ok (.iload_n 1, 1) := by decide +kernel
theorem dX4_pass_15 : decode cX4_pass 15 = .ok (.aload_n 0, 1) := by decide +kernel
theorem dX4_pass_16 : decode cX4_pass 16 = .ok (.aload_n 0, 1) := by decide +kernel
theorem dX4_pass_17 : decode cX4_pass 17 = .ok (.getfield 19, 3) := by decide +kernel
theorem dX4_pass_20 : decode cX4_pass 20 = .ok (.iload_n 1, 1) := by decide +kernel
theorem dX4_pass_21 : decode cX4_pass 21 = .ok (.iaload, 1) := by decide +kernel
theorem dX4_pass_22 : decode cX4_pass 22 = .ok (.aload_n 0, 1) := by decide +kernel
theorem dX4_pass_23 : decode cX4_pass 23 = .ok (.getfield 22, 3) := by decide +kernel
theorem dX4_pass_26 : decode cX4_pass 26 = .ok (.iload_n 1, 1) := by decide +kernel
theorem dX4_pass_27 : decode cX4_pass 27 = .ok (.iaload, 1) := by decide +kernel
theorem dX4_pass_28 : decode cX4_pass 28 = .ok (.aload_n 0, 1) := by decide +kernel
theorem dX4_pass_29 : decode cX4_pass 29 = .ok (.getfield 69, 3) := by decide +kernel
theorem dX4_pass_32 : decode cX4_pass 32 = .ok (.invokevirtual 178, 3) := by decide +kernel
theorem dX4_pass_35 : decode cX4_pass 35 = .ok (.iastore, 1) := by decide +kernel
theorem dX4_pass_36 : decode cX4_pass 36 = .ok (.aload_n 0, 1) := by decide +kernel
theorem dX4_pass_37 : decode cX4_pass 37 = .ok (.getfield 25, 3) := by decide +kernel
theorem dX4_pass_40 : decode cX4_pass 40 = .ok (.iload_n 1, 1) := by decide +kernel
theorem dX4_pass_41 : decode cX4_pass 41 = .ok (.dup2, 1) := by decide +kernel
theorem dX4_pass_42 : decode cX4_pass 42 = .ok (.iaload, 1) := by decide +kernel
theorem dX4_pass_43 : decode cX4_pass 43 = .ok (.aload_n 0, 1) := by decide +kernel
theorem dX4_pass_44 : decode cX4_pass 44 = .ok (.getfield 25, 3) := by decide +kernel
theorem dX4_pass_47 : decode cX4_pass 47 = .ok (.iload_n 1, 1) := by decide +kernel
theorem dX4_pass_48 : decode cX4_pass 48 = .ok (.iaload, 1) := by decide +kernel
theorem dX4_pass_49 : decode cX4_pass 49 = .ok (.ifCond .le 7, 3) := by decide +kernel
theorem dX4_pass_52 : decode cX4_pass 52 = .ok (.iconst 1, 1) := by decide +kernel
theorem dX4_pass_53 : decode cX4_pass 53 = .ok (.goto 4, 3) := by decide +kernel
theorem dX4_pass_56 : decode cX4_pass 56 = .ok (.iconst 0, 1) := by decide +kernel
theorem dX4_pass_57 : decode cX4_pass 57 = .ok (.isub, 1) := by decide +kernel
theorem dX4_pass_58 : decode cX4_pass 58 = .ok (.iastore, 1) := by decide +kernel
theorem dX4_pass_59 : decode cX4_pass 59 = .ok (.iinc 1 1, 3) := by decide +kernel
theorem dX4_pass_62 : decode cX4_pass 62 = .ok (.goto (-60), 3) := by decide +kernel
theorem dX4_pass_65 : decode cX4_pass 65 = .ok (.aload_n 0, 1) := by decide +kernel
theorem dX4_pass_66 : decode cX4_pass 66 = .ok (.dup, 1) := by decide +kernel
theorem dX4_pass_67 : decode cX4_pass 67 = .ok (.getfield 69, 3) := by decide +kernel
theorem dX4_pass_70 : decode cX4_pass 70 = .ok (.iconst 1, 1) := by decide +kernel
theorem dX4_pass_71 : decode cX4_pass 71 = .ok (.iadd, 1) := by decide +kernel
theorem dX4_pass_72 : decode cX4_pass 72 = .ok (.putfield 69, 3) := by decide +kernel
theorem dX4_pass_75 : decode cX4_pass 75 = .ok (.return_, 1) := by decide +kernel
set_option maxRecDepth 20000 in
theorem ggX4_outs_X4_isOut : GoodIn wsX4_outs wsX4_isOut := goodIn_r _ [6] (by decide +kernel) (by decide +kernel)
set_option maxRecDepth 20000 in
theorem gX4_outs_X4_isOut : GoodIn wsX4_outs (va_wsS RX4 181 yX4_isOut wsX4_isOut) := goodIn_app (goodIn_of _ (by decide +kernel)) ggX4_outs_X4_isOut
theorem dX4_outs_0 : decode cX4_outs 0 = .ok (.iconst 0, 1) := by decide +kernel
theorem dX4_outs_1 : decode cX4_outs 1 = .ok (.istore_n 1, 1) := by decide +kernel
theorem dX4_outs_2 : decode cX4_outs 2 = .ok (.iconst 0, 1) := by decide +kernel
theorem dX4_outs_3 : decode cX4_outs 3 = .ok (.istore_n 2, 1) := by decide +kernel
theorem dX4_outs_4 : decode cX4_outs 4 = .ok (.iload_n 2, 1) := by decide +kernel
theorem dX4_outs_5 : decode cX4_outs 5 = .ok (.aload_n 0, 1) := by decide +kernel
theorem dX4_outs_6 : decode cX4_outs 6 = .ok (.getfield 73, 3) := by decide +kernel
theorem dX4_outs_9 : decode cX4_outs 9 = .ok (.if_icmp .ge 29, 3) := by decide +kernel
theorem dX4_outs_12 : decode cX4_outs 12 = .ok (.iload_n 1, 1) := by decide +kernel
theorem dX4_outs_13 : decode cX4_outs 13 = .ok (.aload_n 0, 1) := by decide +kernel
theorem dX4_outs_14 : decode cX4_outs 14 = .ok (.getfield 22, 3) := by decide +kernel
theorem dX4_outs_17 : decode cX4_outs 17 = .ok (.iload_n 2, 1) := by decide +kernel
theorem dX4_outs_18 : decode cX4_outs 18 = .ok (.iaload, 1) := by decide +kernel
theorem dX4_outs_19 : decode cX4_outs 19 = .ok (.invokestatic 181, 3) := by decide +kernel
theorem dX4_outs_22 : decode cX4_outs 22 = .ok (.ifCond .eq 7, 3) := by decide +kernel
theorem dX4_outs_25 : decode cX4_outs 25 = .ok (.iconst 1, 1) := by decide +kernel
theorem dX4_outs_26 : decode cX4_outs 26 = .ok (.goto 4, 3) := by decide +kernel
theorem dX4_outs_29 : decode cX4_outs 29 = .ok (.iconst 0, 1) := by decide +kernel
theorem dX4_outs_30 : decode cX4_outs 30 = .ok (.iadd, 1) := by decide +kernel
theorem dX4_outs_31 : decode cX4_outs 31 = .ok (.istore_n 1, 1) := by decide +kernel
theorem dX4_outs_32 : decode cX4_outs 32 = .ok (.iinc 2 1, 3) := by decide +kernel
theorem dX4_outs_35 : decode cX4_outs 35 = .ok (.goto (-31), 3) := by decide +kernel
theorem dX4_outs_38 : decode cX4_outs 38 = .ok (.iload_n 1, 1) := by decide +kernel
theorem dX4_outs_39 : decode cX4_outs 39 = .ok (.ireturn, 1) := by decide +kernel
theorem dX4_lays_0 : decode cX4_lays 0 = .ok (.aload_n 1, 1) := by decide +kernel
theorem dX4_lays_1 : decode cX4_lays 1 = .ok (.iload_n 2, 1) := by decide +kernel
theorem dX4_lays_2 : decode cX4_lays 2 = .ok (.aload_n 0, 1) := by decide +kernel
theorem dX4_lays_3 : decode cX4_lays 3 = .ok (.getfield 69, 3) := by decide +kernel
theorem dX4_lays_6 : decode cX4_lays 6 = .ok (.iastore, 1) := by decide +kernel
theorem dX4_lays_7 : decode cX4_lays 7 = .ok (.iconst 0, 1) := by decide +kernel
theorem dX4_lays_8 : decode cX4_lays 8 = .ok (.istore_n 3, 1) := by decide +kernel
theorem dX4_lays_9 : decode cX4_lays 9 = .ok (.iload_n 3, 1) := by decide +kernel
theorem dX4_lays_10 : decode cX4_lays 10 = .ok (.iconst 5, 1) := by decide +kernel
theorem dX4_lays_11 : decode cX4_lays 11 = .ok (.if_icmp .ge 36, 3) := by decide +kernel
theorem dX4_lays_14 : decode cX4_lays 14 = .ok (.aload_n 1, 1) := by decide +kernel
theorem dX4_lays_15 : decode cX4_lays 15 = .ok (.iload_n 2, 1) := by decide +kernel
theorem dX4_lays_16 : decode cX4_lays 16 = .ok (.iconst 1, 1) := by decide +kernel
theorem dX4_lays_17 : decode cX4_lays 17 = .ok (.iadd, 1) := by decide +kernel
theorem dX4_lays_18 : decode cX4_lays 18 = .ok (.iload_n 3, 1) := by decide +kernel
theorem dX4_lays_19 : decode cX4_lays 19 = .ok (.iadd, 1) := by decide +kernel
theorem dX4_lays_20 : decode cX4_lays 20 = .ok (.aload_n 0, 1) := by decide +kernel
theorem dX4_lays_21 : decode cX4_lays 21 = .ok (.getfield 22, 3) := by decide +kernel
theorem dX4_lays_24 : decode cX4_lays 24 = .ok (.iload_n 3, 1) := by decide +kernel
theorem dX4_lays_25 : decode cX4_lays 25 = .ok (.iaload, 1) := by decide +kernel
theorem dX4_lays_26 : decode cX4_lays 26 = .ok (.iastore, 1) := by decide +kernel
theorem dX4_lays_27 : decode cX4_lays 27 = .ok (.aload_n 1, 1) := by decide +kernel
theorem dX4_lays_28 : decode cX4_lays 28 = .ok (.iload_n 2, 1) := by decide +kernel
theorem dX4_lays_29 : decode cX4_lays 29 = .ok (.bipush 6, 2) := by decide +kernel
theorem dX4_lays_31 : decode cX4_lays 31 = .ok (.iadd, 1) := by decide +kernel
theorem dX4_lays_32 : decode cX4_lays 32 = .ok (.iload_n 3, 1) := by decide +kernel
theorem dX4_lays_33 : decode cX4_lays 33 = .ok (.iadd, 1) := by decide +kernel
theorem dX4_lays_34 : decode cX4_lays 34 = .ok (.aload_n 0, 1) := by decide +kernel
theorem dX4_lays_35 : decode cX4_lays 35 = .ok (.getfield 25, 3) := by decide +kernel
theorem dX4_lays_38 : decode cX4_lays 38 = .ok (.iload_n 3, 1) := by decide +kernel
theorem dX4_lays_39 : decode cX4_lays 39 = .ok (.iaload, 1) := by decide +kernel
theorem dX4_lays_40 : decode cX4_lays 40 = .ok (.iastore, 1) := by decide +kernel
theorem dX4_lays_41 : decode cX4_lays 41 = .ok (.iinc 3 1, 3) := by decide +kernel
theorem dX4_lays_44 : decode cX4_lays 44 = .ok (.goto (-35), 3) := by decide +kernel
theorem dX4_lays_47 : decode cX4_lays 47 = .ok (.return_, 1) := by decide +kernel
theorem dX4_takes_0 : decode cX4_takes 0 = .ok (.aload_n 0, 1) := by decide +kernel
theorem dX4_takes_1 : decode cX4_takes 1 = .ok (.aload_n 1, 1) := by decide +kernel
theorem dX4_takes_2 : decode cX4_takes 2 = .ok (.iload_n 2, 1) := by decide +kernel
theorem dX4_takes_3 : decode cX4_takes 3 = .ok (.iaload, 1) := by decide +kernel
theorem dX4_takes_4 : decode cX4_takes 4 = .ok (.putfield 69, 3) := by decide +kernel
theorem dX4_takes_7 : decode cX4_takes 7 = .ok (.iconst 0, 1) := by decide +kernel
theorem dX4_takes_8 : decode cX4_takes 8 = .ok (.istore_n 3, 1) := by decide +kernel
theorem dX4_takes_9 : decode cX4_takes 9 = .ok (.iload_n 3, 1) := by decide +kernel
theorem dX4_takes_10 : decode cX4_takes 10 = .ok (.iconst 5, 1) := by decide +kernel
theorem dX4_takes_11 : decode cX4_takes 11 = .ok (.if_icmp .ge 36, 3) := by decide +kernel
theorem dX4_takes_14 : decode cX4_takes 14 = .ok (.aload_n 0, 1) := by decide +kernel
theorem dX4_takes_15 : decode cX4_takes 15 = .ok (.getfield 22, 3) := by decide +kernel
theorem dX4_takes_18 : decode cX4_takes 18 = .ok (.iload_n 3, 1) := by decide +kernel
theorem dX4_takes_19 : decode cX4_takes 19 = .ok (.aload_n 1, 1) := by decide +kernel
theorem dX4_takes_20 : decode cX4_takes 20 = .ok (.iload_n 2, 1) := by decide +kernel
theorem dX4_takes_21 : decode cX4_takes 21 = .ok (.iconst 1, 1) := by decide +kernel
theorem dX4_takes_22 : decode cX4_takes 22 = .ok (.iadd, 1) := by decide +kernel
theorem dX4_takes_23 : decode cX4_takes 23 = .ok (.iload_n 3, 1) := by decide +kernel
theorem dX4_takes_24 : decode cX4_takes 24 = .ok (.iadd, 1) := by decide +kernel
theorem dX4_takes_25 : decode cX4_takes 25 = .ok (.iaload, 1) := by decide +kernel
theorem dX4_takes_26 : decode cX4_takes 26 = .ok (.iastore, 1) := by decide +kernel
theorem dX4_takes_27 : decode cX4_takes 27 = .ok (.aload_n 0, 1) := by decide +kernel
theorem dX4_takes_28 : decode cX4_takes 28 = .ok (.getfield 25, 3) := by decide +kernel
theorem dX4_takes_31 : decode cX4_takes 31 = .ok (.iload_n 3, 1) := by decide +kernel
theorem dX4_takes_32 : decode cX4_takes 32 = .ok (.aload_n 1, 1) := by decide +kernel
theorem dX4_takes_33 : decode cX4_takes 33 = .ok (.iload_n 2, 1) := by decide +kernel
theorem dX4_takes_34 : decode cX4_takes 34 = .ok (.bipush 6, 2) := by decide +kernel
theorem dX4_takes_36 : decode cX4_takes 36 = .ok (.iadd, 1) := by decide +kernel
theorem dX4_takes_37 : decode cX4_takes 37 = .ok (.iload_n 3, 1) := by decide +kernel
theorem dX4_takes_38 : decode cX4_takes 38 = .ok (.iadd, 1) := by decide +kernel
theorem dX4_takes_39 : decode cX4_takes 39 = .ok (.iaload, 1) := by decide +kernel
theorem dX4_takes_40 : decode cX4_takes 40 = .ok (.iastore, 1) := by decide +kernel
theorem dX4_takes_41 : decode cX4_takes 41 = .ok (.iinc 3 1, 3) := by decide +kernel
theorem dX4_takes_44 : decode cX4_takes 44 = .ok (.goto (-35), 3) := by decide +kernel
theorem dX4_takes_47 : decode cX4_takes 47 = .ok (.return_, 1) := by decide +kernel
set_option maxRecDepth 20000 in
theorem ggX4_notes_X4_lays : GoodIn wsX4_notes wsX4_lays := goodIn_r _ [7, 8, 9, 10, 11, 12, 13, 14, 15, 16, 17, 18, 19, 20, 21, 22, 23, 24, 25, 26, 27, 28, 29, 30, 31, 32, 33, 34, 35, 36, 37, 38, 39, 40] (by decide +kernel) (by decide +kernel)
set_option maxRecDepth 20000 in
theorem gX4_notes_X4_lays : GoodIn wsX4_notes (wsV RX4 184 RX4 yX4_lays wsX4_lays) := goodIn_app (goodIn_of _ (by decide +kernel)) ggX4_notes_X4_lays
theorem dX4_notes_0 : decode cX4_notes 0 = .ok (.aload_n 0, 1) := by decide +kernel
theorem dX4_notes_1 : decode cX4_notes 1 = .ok (.getfield 82, 3) := by decide +kernel
theorem dX4_notes_4 : decode cX4_notes 4 = .ok (.bipush 8, 2) := by decide +kernel
theorem dX4_notes_6 : decode cX4_notes 6 = .ok (.if_icmp .ne 42, 3) := by decide +kernel
theorem dX4_notes_9 : decode cX4_notes 9 = .ok (.iconst 0, 1) := by decide +kernel
theorem dX4_notes_10 : decode cX4_notes 10 = .ok (.istore_n 1, 1) := by decide +kernel
theorem dX4_notes_11 : decode cX4_notes 11 = .ok (.iload_n 1, 1) := by decide +kernel
theorem dX4_notes_12 : decode cX4_notes 12 = .ok (.bipush 77, 2) := by decide +kernel
theorem dX4_notes_14 : decode cX4_notes 14 = .ok (.if_icmp .ge 24, 3) := by decide +kernel
theorem dX4_notes_17 : decode cX4_notes 17 = .ok (.aload_n 0, 1) := by decide +kernel
theorem dX4_notes_18 : decode cX4_notes 18 = .ok (.getfield 49, 3) := by decide +kernel
theorem dX4_notes_21 : decode cX4_notes 21 = .ok (.iload_n 1, 1) := by decide +kernel
theorem dX4_notes_22 : decode cX4_notes 22 = .ok (.aload_n 0, 1) := by decide +kernel
theorem dX4_notes_23 : decode cX4_notes 23 = .ok (.getfield 49, 3) := by decide +kernel
theorem dX4_notes_26 : decode cX4_notes 26 = .ok (.iload_n 1, 1) := by decide +kernel
theorem dX4_notes_27 : decode cX4_notes 27 = .ok (.bipush 11, 2) := by decide +kernel
theorem dX4_notes_29 : decode cX4_notes 29 = .ok (.iadd, 1) := by decide +kernel
theorem dX4_notes_30 : decode cX4_notes 30 = .ok (.iaload, 1) := by decide +kernel
theorem dX4_notes_31 : decode cX4_notes 31 = .ok (.iastore, 1) := by decide +kernel
theorem dX4_notes_32 : decode cX4_notes 32 = .ok (.iinc 1 1, 3) := by decide +kernel
theorem dX4_notes_35 : decode cX4_notes 35 = .ok (.goto (-24), 3) := by decide +kernel
theorem dX4_notes_38 : decode cX4_notes 38 = .ok (.aload_n 0, 1) := by decide +kernel
theorem dX4_notes_39 : decode cX4_notes 39 = .ok (.dup, 1) := by decide +kernel
theorem dX4_notes_40 : decode cX4_notes 40 = .ok (.getfield 82, 3) := by decide +kernel
theorem dX4_notes_43 : decode cX4_notes 43 = .ok (.iconst 1, 1) := by decide +kernel
theorem dX4_notes_44 : decode cX4_notes 44 = .ok (.isub, 1) := by decide +kernel
theorem dX4_notes_45 : decode cX4_notes 45 = .ok (.putfield 82, 3) := by decide +kernel
theorem dX4_notes_48 : decode cX4_notes 48 = .ok (.aload_n 0, 1) := by decide +kernel
theorem dX4_notes_49 : decode cX4_notes 49 = .ok (.aload_n 0, 1) := by decide +kernel
theorem dX4_notes_50 : decode cX4_notes 50 = .ok (.getfield 49, 3) := by decide +kernel
theorem dX4_notes_53 : decode cX4_notes 53 = .ok (.bipush 11, 2) := by decide +kernel
theorem dX4_notes_55 : decode cX4_notes 55 = .ok (.aload_n 0, 1) := by decide +kernel
theorem dX4_notes_56 : decode cX4_notes 56 = .ok (.getfield 82, 3) := by decide +kernel
theorem dX4_notes_59 : decode cX4_notes 59 = .ok (.imul, 1) := by decide +kernel
theorem dX4_notes_60 : decode cX4_notes 60 = .ok (.invokevirtual 184, 3) := by decide +kernel
theorem dX4_notes_63 : decode cX4_notes 63 = .ok (.aload_n 0, 1) := by decide +kernel
theorem dX4_notes_64 : decode cX4_notes 64 = .ok (.dup, 1) := by decide +kernel
theorem dX4_notes_65 : decode cX4_notes 65 = .ok (.getfield 82, 3) := by decide +kernel
theorem dX4_notes_68 : decode cX4_notes 68 = .ok (.iconst 1, 1) := by decide +kernel
theorem dX4_notes_69 : decode cX4_notes 69 = .ok (.iadd, 1) := by decide +kernel
theorem dX4_notes_70 : decode cX4_notes 70 = .ok (.putfield 82, 3) := by decide +kernel
theorem dX4_notes_73 : decode cX4_notes 73 = .ok (.return_, 1) := by decide +kernel
set_option maxRecDepth 20000 in
theorem ggX4_puts_X4_lays : GoodIn wsX4_puts wsX4_lays := goodIn_r _ [6, 7, 8, 9, 10, 11, 12, 13, 14, 15, 16, 17, 18, 19, 20, 21, 22, 23, 24, 25, 26, 27, 28, 29, 30, 31, 32, 33, 34, 35, 36, 37, 38, 39] (by decide +kernel) (by decide +kernel)
set_option maxRecDepth 20000 in
theorem gX4_puts_X4_lays : GoodIn wsX4_puts (wsV RX4 184 RX4 yX4_lays wsX4_lays) := goodIn_app (goodIn_of _ (by decide +kernel)) ggX4_puts_X4_lays
theorem dX4_puts_0 : decode cX4_puts 0 = .ok (.aload_n 0, 1) := by decide +kernel
theorem dX4_puts_1 : decode cX4_puts 1 = .ok (.aload_n 0, 1) := by decide +kernel
theorem dX4_puts_2 : decode cX4_puts 2 = .ok (.getfield 52, 3) := by decide +kernel
theorem dX4_puts_5 : decode cX4_puts 5 = .ok (.iconst 0, 1) := by decide +kernel
theorem dX4_puts_6 : decode cX4_puts 6 = .ok (.invokevirtual 184, 3) := by decide +kernel
theorem dX4_puts_9 : decode cX4_puts 9 = .ok (.return_, 1) := by decide +kernel
set_option maxRecDepth 20000 in
theorem ggX4_back_X4_takes : GoodIn wsX4_back wsX4_takes := goodIn_r _ [6, 7, 8, 9, 10, 11, 12, 13, 14, 15, 16, 17, 18, 19, 20, 21, 22, 23, 24, 25, 26, 27, 28, 29, 30, 31, 32, 33, 34, 35, 36, 37, 38, 39] (by decide +kernel) (by decide +kernel)
set_option maxRecDepth 20000 in
theorem gX4_back_X4_takes : GoodIn wsX4_back (wsV RX4 188 RX4 yX4_takes wsX4_takes) := goodIn_app (goodIn_of _ (by decide +kernel)) ggX4_back_X4_takes
theorem dX4_back_0 : decode cX4_back 0 = .ok (.aload_n 0, 1) := by decide +kernel
theorem dX4_back_1 : decode cX4_back 1 = .ok (.aload_n 0, 1) := by decide +kernel
theorem dX4_back_2 : decode cX4_back 2 = .ok (.getfield 52, 3) := by decide +kernel
theorem dX4_back_5 : decode cX4_back 5 = .ok (.iconst 0, 1) := by decide +kernel
theorem dX4_back_6 : decode cX4_back 6 = .ok (.invokevirtual 188, 3) := by decide +kernel
theorem dX4_back_9 : decode cX4_back 9 = .ok (.return_, 1) := by decide +kernel
set_option maxRecDepth 20000 in
theorem ggX4_month_X4_in : GoodIn wsX4_month wsX4_in := goodIn_r _ [5] (by decide +kernel) (by decide +kernel)
set_option maxRecDepth 20000 in
theorem gX4_month_X4_in : GoodIn wsX4_month (va_wsS RX4 85 yX4_in wsX4_in) := goodIn_app (goodIn_of _ (by decide +kernel)) ggX4_month_X4_in
set_option maxRecDepth 20000 in
theorem ggX4_month_X4_bad : GoodIn wsX4_month wsX4_bad := goodIn_r _ [9, 10, 54, 55, 56, 57, 58, 59, 60, 61, 62, 63, 64, 65, 66, 67, 68, 69, 70, 71, 72, 73, 74, 75, 76, 77, 78, 79, 80, 81, 82, 83] (by decide +kernel) (by decide +kernel)
set_option maxRecDepth 20000 in
theorem gX4_month_X4_bad : GoodIn wsX4_month (wsV RX4 89 RX4 yX4_bad wsX4_bad) := goodIn_app (goodIn_of _ (by decide +kernel)) ggX4_month_X4_bad
set_option maxRecDepth 20000 in
theorem ggX4_month_X4_notes : GoodIn wsX4_month wsX4_notes := goodIn_r _ [14, 15, 16, 17, 18, 19, 4, 20, 1, 21, 22, 54, 55, 56, 57, 58, 59, 60, 61, 62, 63, 64, 65, 66, 67, 68, 69, 70, 71, 72, 73, 74, 75, 76, 77, 78, 79, 80, 81, 82, 83] (by decide +kernel) (by decide +kernel)
set_option maxRecDepth 20000 in
theorem gX4_month_X4_notes : GoodIn wsX4_month (wsV RX4 191 RX4 yX4_notes wsX4_notes) := goodIn_app (goodIn_of _ (by decide +kernel)) ggX4_month_X4_notes
set_option maxRecDepth 20000 in
theorem ggX4_month_X4_pass : GoodIn wsX4_month wsX4_pass := goodIn_r _ [26, 27, 21, 28, 1, 22, 29, 30, 31, 4, 32, 33, 34, 35, 36, 37, 38, 39, 40, 41, 42, 43, 44, 45, 46, 54, 55, 56, 57, 58, 59, 60, 61, 62, 63, 64, 65, 66, 67, 68, 69, 70, 71, 72, 73, 74, 75, 76, 77, 78, 79, 80, 81, 82, 83] (by decide +kernel) (by decide +kernel)
set_option maxRecDepth 20000 in
theorem gX4_month_X4_pass : GoodIn wsX4_month (wsV RX4 194 RX4 yX4_pass wsX4_pass) := goodIn_app (goodIn_of _ (by decide +kernel)) ggX4_month_X4_pass
set_option maxRecDepth 20000 in
theorem ggX4_month_X4_outs : GoodIn wsX4_month wsX4_outs := goodIn_r _ [50, 27, 21, 51, 52, 4, 53, 54, 55, 56, 57, 58, 59, 60, 61, 62, 63, 64, 65, 66, 67, 68, 69, 70, 71, 72, 73, 74, 75, 76, 77, 78, 79, 80, 81, 82, 83] (by decide +kernel) (by decide +kernel)
set_option maxRecDepth 20000 in
theorem gX4_month_X4_outs : GoodIn wsX4_month (wsV RX4 197 RX4 yX4_outs wsX4_outs) := goodIn_app (goodIn_of _ (by decide +kernel)) ggX4_month_X4_outs
theorem dX4_month_0 : decode cX4_month 0 = .ok (.iload_n 1, 1) := by decide +kernel
theorem dX4_month_1 : decode cX4_month 1 = .ok (.iconst 1, 1) := by decide +kernel
theorem dX4_month_2 : decode cX4_month 2 = .ok (.bipush 60, 2) := by decide +kernel
theorem dX4_month_4 : decode cX4_month 4 = .ok (.invokestatic 85, 3) := by decide +kernel
theorem dX4_month_7 : decode cX4_month 7 = .ok (.ifCond .ne 8, 3) := by decide +kernel
theorem dX4_month_10 : decode cX4_month 10 = .ok (.aload_n 0, 1) := by decide +kernel
theorem dX4_month_11 : decode cX4_month 11 = .ok (.invokevirtual 89, 3) := by decide +kernel
theorem dX4_month_14 : decode cX4_month 14 = .ok (.ireturn, 1) := by decide +kernel
theorem dX4_month_15 : decode cX4_month 15 = .ok (.aload_n 0, 1) := by decide +kernel
theorem dX4_month_16 : decode cX4_month 16 = .ok (.invokevirtual 191, 3) := by decide +kernel
theorem dX4_month_19 : decode cX4_month 19 = .ok (.iconst 0, 1) := by decide +kernel
theorem dX4_month_20 : decode cX4_month 20 = .ok (.istore_n 2, 1) := by decide +kernel
theorem dX4_month_21 : decode cX4_month 21 = .ok (.iload_n 2, 1) := by decide +kernel
theorem dX4_month_22 : decode cX4_month 22 = .ok (.iload_n 1, 1) := by decide +kernel
theorem dX4_month_23 : decode cX4_month 23 = .ok (.if_icmp .ge 23, 3) := by decide +kernel
theorem dX4_month_26 : decode cX4_month 26 = .ok (.aload_n 0, 1) := by decide +kernel
theorem dX4_month_27 : decode cX4_month 27 = .ok (.getfield 69, 3) := by decide +kernel
theorem dX4_month_30 : decode cX4_month 30 = .ok (.sipush 999, 3) := by decide +kernel
theorem dX4_month_33 : decode cX4_month 33 = .ok (.if_icmp .ge 13, 3) := by decide +kernel
theorem dX4_month_36 : decode cX4_month 36 = .ok (.aload_n 0, 1) := by decide +kernel
theorem dX4_month_37 : decode cX4_month 37 = .ok (.invokevirtual 194, 3) := by decide +kernel
theorem dX4_month_40 : decode cX4_month 40 = .ok (.iinc 2 1, 3) := by decide +kernel
theorem dX4_month_43 : decode cX4_month 43 = .ok (.goto (-22), 3) := by decide +kernel
theorem dX4_month_46 : decode cX4_month 46 = .ok (.aload_n 0, 1) := by decide +kernel
theorem dX4_month_47 : decode cX4_month 47 = .ok (.invokevirtual 197, 3) := by decide +kernel
theorem dX4_month_50 : decode cX4_month 50 = .ok (.ireturn, 1) := by decide +kernel
set_option maxRecDepth 20000 in
theorem ggX4_feed_X4_isFloe : GoodIn wsX4_feed wsX4_isFloe := goodIn_r _ [6, 7, 8, 9, 5, 10, 31, 32, 33, 34, 35, 36, 37, 38, 39, 40, 41, 42, 43, 44, 45, 46, 47, 48, 49, 50, 51, 52, 53, 54, 55, 56, 57, 58, 59, 60] (by decide +kernel) (by decide +kernel)
set_option maxRecDepth 20000 in
theorem gX4_feed_X4_isFloe : GoodIn wsX4_feed (wsV RX4 200 RX4 yX4_isFloe wsX4_isFloe) := goodIn_app (goodIn_of _ (by decide +kernel)) ggX4_feed_X4_isFloe
set_option maxRecDepth 20000 in
theorem ggX4_feed_X4_in : GoodIn wsX4_feed wsX4_in := goodIn_r _ [10] (by decide +kernel) (by decide +kernel)
set_option maxRecDepth 20000 in
theorem gX4_feed_X4_in : GoodIn wsX4_feed (va_wsS RX4 85 yX4_in wsX4_in) := goodIn_app (goodIn_of _ (by decide +kernel)) ggX4_feed_X4_in
set_option maxRecDepth 20000 in
theorem ggX4_feed_X4_bad : GoodIn wsX4_feed wsX4_bad := goodIn_r _ [14, 15, 31, 32, 33, 34, 35, 36, 37, 38, 39, 40, 41, 42, 43, 44, 45, 46, 47, 48, 49, 50, 51, 52, 53, 54, 55, 56, 57, 58, 59, 60] (by decide +kernel) (by decide +kernel)
set_option maxRecDepth 20000 in
theorem gX4_feed_X4_bad : GoodIn wsX4_feed (wsV RX4 89 RX4 yX4_bad wsX4_bad) := goodIn_app (goodIn_of _ (by decide +kernel)) ggX4_feed_X4_bad
set_option maxRecDepth 20000 in
theorem ggX4_feed_X4_notes : GoodIn wsX4_feed wsX4_notes := goodIn_r _ [19, 20, 21, 22, 23, 24, 5, 25, 26, 27, 1, 31, 32, 33, 34, 35, 36, 37, 38, 39, 40, 41, 42, 43, 44, 45, 46, 47, 48, 49, 50, 51, 52, 53, 54, 55, 56, 57, 58, 59, 60] (by decide +kernel) (by decide +kernel)
set_option maxRecDepth 20000 in
theorem gX4_feed_X4_notes : GoodIn wsX4_feed (wsV RX4 191 RX4 yX4_notes wsX4_notes) := goodIn_app (goodIn_of _ (by decide +kernel)) ggX4_feed_X4_notes
set_option maxRecDepth 20000 in
theorem ggX4_feed_X4_lesser : GoodIn wsX4_feed wsX4_lesser := goodIn_r _ [30] (by decide +kernel) (by decide +kernel)
set_option maxRecDepth 20000 in
theorem gX4_feed_X4_lesser : GoodIn wsX4_feed (va_wsS RX4 203 yX4_lesser wsX4_lesser) := goodIn_app (goodIn_of _ (by decide +kernel)) ggX4_feed_X4_lesser
theorem dX4_feed_0 : decode cX4_feed 0 = .ok (.aload_n 0, 1) := by decide +kernel
theorem dX4_feed_1 : decode cX4_feed 1 = .ok (.iload_n 1, 1) := by decide +kernel
theorem dX4_feed_2 : decode cX4_feed 2 = .ok (.invokevirtual 200, 3) := by decide +kernel
theorem dX4_feed_5 : decode cX4_feed 5 = .ok (.ifCond .eq 13, 3) := by decide +kernel
theorem dX4_feed_8 : decode cX4_feed 8 = .ok (.iload_n 2, 1) := by decide +kernel
theorem dX4_feed_9 : decode cX4_feed 9 = .ok (.iconst 1, 1) := by decide +kernel
theorem dX4_feed_10 : decode cX4_feed 10 = .ok (.bipush 60, 2) := by decide +kernel
theorem dX4_feed_12 : decode cX4_feed 12 = .ok (.invokestatic 85, 3) := by decide +kernel
theorem dX4_feed_15 : decode cX4_feed 15 = .ok (.ifCond .ne 8, 3) := by decide +kernel
theorem dX4_feed_18 : decode cX4_feed 18 = .ok (.aload_n 0, 1) := by decide +kernel
theorem dX4_feed_19 : decode cX4_feed 19 = .ok (.invokevirtual 89, 3) := by decide +kernel
theorem dX4_feed_22 : decode cX4_feed 22 = .ok (.ireturn, 1) := by decide +kernel
theorem dX4_feed_23 : decode cX4_feed 23 = .ok (.aload_n 0, 1) := by decide +kernel
theorem dX4_feed_24 : decode cX4_feed 24 = .ok (.invokevirtual 191, 3) := by decide +kernel
theorem dX4_feed_27 : decode cX4_feed 27 = .ok (.aload_n 0, 1) := by decide +kernel
theorem dX4_feed_28 : decode cX4_feed 28 = .ok (.getfield 25, 3) := by decide +kernel
theorem dX4_feed_31 : decode cX4_feed 31 = .ok (.iload_n 1, 1) := by decide +kernel
theorem dX4_feed_32 : decode cX4_feed 32 = .ok (.bipush 99, 2) := by decide +kernel
theorem dX4_feed_34 : decode cX4_feed 34 = .ok (.aload_n 0, 1) := by decide +kernel
theorem dX4_feed_35 : decode cX4_feed 35 = .ok (.getfield 25, 3) := by decide +kernel
theorem dX4_feed_38 : decode cX4_feed 38 = .ok (.iload_n 1, 1) := by decide +kernel
theorem dX4_feed_39 : decode cX4_feed 39 = .ok (.iaload, 1) := by decide +kernel
theorem dX4_feed_40 : decode cX4_feed 40 = .ok (.iload_n 2, 1) := by decide +kernel
theorem dX4_feed_41 : decode cX4_feed 41 = .ok (.iadd, 1) := by decide +kernel
theorem dX4_feed_42 : decode cX4_feed 42 = .ok (.invokestatic 203, 3) := by decide +kernel
theorem dX4_feed_45 : decode cX4_feed 45 = .ok (.iastore, 1) := by decide +kernel
theorem dX4_feed_46 : decode cX4_feed 46 = .ok (.aload_n 0, 1) := by decide +kernel
theorem dX4_feed_47 : decode cX4_feed 47 = .ok (.getfield 25, 3) := by decide +kernel
theorem dX4_feed_50 : decode cX4_feed 50 = .ok (.iload_n 1, 1) := by decide +kernel
theorem dX4_feed_51 : decode cX4_feed 51 = .ok (.iaload, 1) := by decide +kernel
theorem dX4_feed_52 : decode cX4_feed 52 = .ok (.ireturn, 1) := by decide +kernel
set_option maxRecDepth 20000 in
theorem ggX4_moves_X4_isFloe : GoodIn wsX4_moves wsX4_isFloe := goodIn_r _ [6, 7, 8, 9, 5, 10, 31, 32, 33, 34, 35, 36, 37, 38, 39, 40, 41, 42, 43, 44, 45, 46, 47, 48, 49, 50, 51, 52, 53, 54, 55, 56, 57, 58, 59, 60] (by decide +kernel) (by decide +kernel)
set_option maxRecDepth 20000 in
theorem gX4_moves_X4_isFloe : GoodIn wsX4_moves (wsV RX4 200 RX4 yX4_isFloe wsX4_isFloe) := goodIn_app (goodIn_of _ (by decide +kernel)) ggX4_moves_X4_isFloe
set_option maxRecDepth 20000 in
theorem ggX4_moves_X4_isCell : GoodIn wsX4_moves wsX4_isCell := goodIn_r _ [13, 8, 9, 5, 10] (by decide +kernel) (by decide +kernel)
set_option maxRecDepth 20000 in
theorem gX4_moves_X4_isCell : GoodIn wsX4_moves (va_wsS RX4 93 yX4_isCell wsX4_isCell) := goodIn_app (goodIn_of _ (by decide +kernel)) ggX4_moves_X4_isCell
set_option maxRecDepth 20000 in
theorem ggX4_moves_X4_bad : GoodIn wsX4_moves wsX4_bad := goodIn_r _ [17, 18, 31, 32, 33, 34, 35, 36, 37, 38, 39, 40, 41, 42, 43, 44, 45, 46, 47, 48, 49, 50, 51, 52, 53, 54, 55, 56, 57, 58, 59, 60] (by decide +kernel) (by decide +kernel)
set_option maxRecDepth 20000 in
theorem gX4_moves_X4_bad : GoodIn wsX4_moves (wsV RX4 89 RX4 yX4_bad wsX4_bad) := goodIn_app (goodIn_of _ (by decide +kernel)) ggX4_moves_X4_bad
set_option maxRecDepth 20000 in
theorem ggX4_moves_X4_notes : GoodIn wsX4_moves wsX4_notes := goodIn_r _ [22, 23, 24, 25, 26, 27, 5, 28, 29, 1, 30, 31, 32, 33, 34, 35, 36, 37, 38, 39, 40, 41, 42, 43, 44, 45, 46, 47, 48, 49, 50, 51, 52, 53, 54, 55, 56, 57, 58, 59, 60] (by decide +kernel) (by decide +kernel)
set_option maxRecDepth 20000 in
theorem gX4_moves_X4_notes : GoodIn wsX4_moves (wsV RX4 191 RX4 yX4_notes wsX4_notes) := goodIn_app (goodIn_of _ (by decide +kernel)) ggX4_moves_X4_notes
theorem dX4_moves_0 : decode cX4_moves 0 = .ok (.aload_n 0, 1) := by decide +kernel
theorem dX4_moves_1 : decode cX4_moves 1 = .ok (.iload_n 1, 1) := by decide +kernel
theorem dX4_moves_2 : decode cX4_moves 2 = .ok (.invokevirtual 200, 3) := by decide +kernel
theorem dX4_moves_5 : decode cX4_moves 5 = .ok (.ifCond .eq 10, 3) := by decide +kernel
theorem dX4_moves_8 : decode cX4_moves 8 = .ok (.iload_n 2, 1) := by decide +kernel
theorem dX4_moves_9 : decode cX4_moves 9 = .ok (.invokestatic 93, 3) := by decide +kernel
theorem dX4_moves_12 : decode cX4_moves 12 = .ok (.ifCond .ne 8, 3) := by decide +kernel
theorem dX4_moves_15 : decode cX4_moves 15 = .ok (.aload_n 0, 1) := by decide +kernel
theorem dX4_moves_16 : decode cX4_moves 16 = .ok (.invokevirtual 89, 3) := by decide +kernel
theorem dX4_moves_19 : decode cX4_moves 19 = .ok (.ireturn, 1) := by decide +kernel
theorem dX4_moves_20 : decode cX4_moves 20 = .ok (.aload_n 0, 1) := by decide +kernel
theorem dX4_moves_21 : decode cX4_moves 21 = .ok (.invokevirtual 191, 3) := by decide +kernel
theorem dX4_moves_24 : decode cX4_moves 24 = .ok (.aload_n 0, 1) := by decide +kernel
theorem dX4_moves_25 : decode cX4_moves 25 = .ok (.getfield 22, 3) := by decide +kernel
theorem dX4_moves_28 : decode cX4_moves 28 = .ok (.iload_n 1, 1) := by decide +kernel
theorem dX4_moves_29 : decode cX4_moves 29 = .ok (.iaload, 1) := by decide +kernel
theorem dX4_moves_30 : decode cX4_moves 30 = .ok (.istore_n 3, 1) := by decide +kernel
theorem dX4_moves_31 : decode cX4_moves 31 = .ok (.aload_n 0, 1) := by decide +kernel
theorem dX4_moves_32 : decode cX4_moves 32 = .ok (.getfield 22, 3) := by decide +kernel
theorem dX4_moves_35 : decode cX4_moves 35 = .ok (.iload_n 1, 1) := by decide +kernel
theorem dX4_moves_36 : decode cX4_moves 36 = .ok (.iload_n 2, 1) := by decide +kernel
theorem dX4_moves_37 : decode cX4_moves 37 = .ok (.iastore, 1) := by decide +kernel
theorem dX4_moves_38 : decode cX4_moves 38 = .ok (.iload_n 3, 1) := by decide +kernel
theorem dX4_moves_39 : decode cX4_moves 39 = .ok (.ireturn, 1) := by decide +kernel
set_option maxRecDepth 20000 in
theorem ggX4_undo_X4_no : GoodIn wsX4_undo wsX4_no := goodIn_r _ [8, 9, 16, 17, 18, 19, 20, 21, 22, 23, 24, 25, 26, 27, 28, 29, 30, 31, 32, 33, 34, 35, 36, 37, 38, 39, 40, 41, 42, 43, 44, 45] (by decide +kernel) (by decide +kernel)
set_option maxRecDepth 20000 in
theorem gX4_undo_X4_no : GoodIn wsX4_undo (wsV RX4 206 RX4 yX4_no wsX4_no) := goodIn_app (goodIn_of _ (by decide +kernel)) ggX4_undo_X4_no
set_option maxRecDepth 20000 in
theorem ggX4_undo_X4_takes : GoodIn wsX4_undo wsX4_takes := goodIn_r _ [13, 3, 14, 15, 16, 17, 18, 19, 20, 21, 22, 23, 24, 25, 26, 27, 28, 29, 30, 31, 32, 33, 34, 35, 36, 37, 38, 39, 40, 41, 42, 43, 44, 45] (by decide +kernel) (by decide +kernel)
set_option maxRecDepth 20000 in
theorem gX4_undo_X4_takes : GoodIn wsX4_undo (wsV RX4 188 RX4 yX4_takes wsX4_takes) := goodIn_app (goodIn_of _ (by decide +kernel)) ggX4_undo_X4_takes
theorem dX4_undo_0 : decode cX4_undo 0 = .ok (.aload_n 0, 1) := by decide +kernel
theorem dX4_undo_1 : decode cX4_undo 1 = .ok (.getfield 82, 3) := by decide +kernel
theorem dX4_undo_4 : decode cX4_undo 4 = .ok (.ifCond .ne 8, 3) := by decide +kernel
theorem dX4_undo_7 : decode cX4_undo 7 = .ok (.aload_n 0, 1) := by decide +kernel
theorem dX4_undo_8 : decode cX4_undo 8 = .ok (.invokevirtual 206, 3) := by decide +kernel
theorem dX4_undo_11 : decode cX4_undo 11 = .ok (.ireturn, 1) := by decide +kernel
theorem dX4_undo_12 : decode cX4_undo 12 = .ok (.aload_n 0, 1) := by decide +kernel
theorem dX4_undo_13 : decode cX4_undo 13 = .ok (.dup, 1) := by decide +kernel
theorem dX4_undo_14 : decode cX4_undo 14 = .ok (.getfield 82, 3) := by decide +kernel
theorem dX4_undo_17 : decode cX4_undo 17 = .ok (.iconst 1, 1) := by decide +kernel
theorem dX4_undo_18 : decode cX4_undo 18 = .ok (.isub, 1) := by decide +kernel
theorem dX4_undo_19 : decode cX4_undo 19 = .ok (.putfield 82, 3) := by decide +kernel
theorem dX4_undo_22 : decode cX4_undo 22 = .ok (.aload_n 0, 1) := by decide +kernel
theorem dX4_undo_23 : decode cX4_undo 23 = .ok (.aload_n 0, 1) := by decide +kernel
theorem dX4_undo_24 : decode cX4_undo 24 = .ok (.getfield 49, 3) := by decide +kernel
theorem dX4_undo_27 : decode cX4_undo 27 = .ok (.bipush 11, 2) := by decide +kernel
theorem dX4_undo_29 : decode cX4_undo 29 = .ok (.aload_n 0, 1) := by decide +kernel
theorem dX4_undo_30 : decode cX4_undo 30 = .ok (.getfield 82, 3) := by decide +kernel
theorem dX4_undo_33 : decode cX4_undo 33 = .ok (.imul, 1) := by decide +kernel
theorem dX4_undo_34 : decode cX4_undo 34 = .ok (.invokevirtual 188, 3) := by decide +kernel
theorem dX4_undo_37 : decode cX4_undo 37 = .ok (.aload_n 0, 1) := by decide +kernel
theorem dX4_undo_38 : decode cX4_undo 38 = .ok (.getfield 69, 3) := by decide +kernel
theorem dX4_undo_41 : decode cX4_undo 41 = .ok (.ireturn, 1) := by decide +kernel
set_option maxRecDepth 20000 in
theorem ggX4_of_X4_isFloe : GoodIn wsX4_of wsX4_isFloe := goodIn_r _ [8, 9, 10, 11, 7, 12, 21, 22, 23, 24, 25, 26, 27, 28, 29, 30, 31, 32, 33, 34, 35, 36, 37, 38, 39, 40, 41, 42, 43, 44, 45, 46, 47, 48, 49, 50] (by decide +kernel) (by decide +kernel)
set_option maxRecDepth 20000 in
theorem gX4_of_X4_isFloe : GoodIn wsX4_of (wsV RX4 200 RX4 yX4_isFloe wsX4_isFloe) := goodIn_app (goodIn_of _ (by decide +kernel)) ggX4_of_X4_isFloe
set_option maxRecDepth 20000 in
theorem ggX4_of_X4_in : GoodIn wsX4_of wsX4_in := goodIn_r _ [12] (by decide +kernel) (by decide +kernel)
set_option maxRecDepth 20000 in
theorem gX4_of_X4_in : GoodIn wsX4_of (va_wsS RX4 85 yX4_in wsX4_in) := goodIn_app (goodIn_of _ (by decide +kernel)) ggX4_of_X4_in
set_option maxRecDepth 20000 in
theorem ggX4_of_X4_bad : GoodIn wsX4_of wsX4_bad := goodIn_r _ [16, 17, 21, 22, 23, 24, 25, 26, 27, 28, 29, 30, 31, 32, 33, 34, 35, 36, 37, 38, 39, 40, 41, 42, 43, 44, 45, 46, 47, 48, 49, 50] (by decide +kernel) (by decide +kernel)
set_option maxRecDepth 20000 in
theorem gX4_of_X4_bad : GoodIn wsX4_of (wsV RX4 89 RX4 yX4_bad wsX4_bad) := goodIn_app (goodIn_of _ (by decide +kernel)) ggX4_of_X4_bad
set_option maxRecDepth 20000 in
theorem ggX4_of_X4_isOut : GoodIn wsX4_of wsX4_isOut := goodIn_r _ [20] (by decide +kernel) (by decide +kernel)
set_option maxRecDepth 20000 in
theorem gX4_of_X4_isOut : GoodIn wsX4_of (va_wsS RX4 181 yX4_isOut wsX4_isOut) := goodIn_app (goodIn_of _ (by decide +kernel)) ggX4_of_X4_isOut
theorem dX4_of_0 : decode cX4_of 0 = .ok (.aload_n 0, 1) := by decide +kernel
theorem dX4_of_1 : decode cX4_of 1 = .ok (.iload_n 1, 1) := by decide +kernel
theorem dX4_of_2 : decode cX4_of 2 = .ok (.invokevirtual 200, 3) := by decide +kernel
theorem dX4_of_5 : decode cX4_of 5 = .ok (.ifCond .eq 12, 3) := by decide +kernel
theorem dX4_of_8 : decode cX4_of 8 = .ok (.iload_n 2, 1) := by decide +kernel
theorem dX4_of_9 : decode cX4_of 9 = .ok (.iconst 0, 1) := by decide +kernel
theorem dX4_of_10 : decode cX4_of 10 = .ok (.iconst 3, 1) := by decide +kernel
theorem dX4_of_11 : decode cX4_of 11 = .ok (.invokestatic 85, 3) := by decide +kernel
theorem dX4_of_14 : decode cX4_of 14 = .ok (.ifCond .ne 8, 3) := by decide +kernel
theorem dX4_of_17 : decode cX4_of 17 = .ok (.aload_n 0, 1) := by decide +kernel
theorem dX4_of_18 : decode cX4_of 18 = .ok (.invokevirtual 89, 3) := by decide +kernel
theorem dX4_of_21 : decode cX4_of 21 = .ok (.ireturn, 1) := by decide +kernel
theorem dX4_of_22 : decode cX4_of 22 = .ok (.iload_n 2, 1) := by decide +kernel
theorem dX4_of_23 : decode cX4_of 23 = .ok (.ifCond .ne 12, 3) := by decide +kernel
theorem dX4_of_26 : decode cX4_of 26 = .ok (.aload_n 0, 1) := by decide +kernel
theorem dX4_of_27 : decode cX4_of 27 = .ok (.getfield 19, 3) := by decide +kernel
theorem dX4_of_30 : decode cX4_of 30 = .ok (.iload_n 1, 1) := by decide +kernel
theorem dX4_of_31 : decode cX4_of 31 = .ok (.iaload, 1) := by decide +kernel
theorem dX4_of_32 : decode cX4_of 32 = .ok (.goto 48, 3) := by decide +kernel
theorem dX4_of_35 : decode cX4_of 35 = .ok (.iload_n 2, 1) := by decide +kernel
theorem dX4_of_36 : decode cX4_of 36 = .ok (.iconst 1, 1) := by decide +kernel
theorem dX4_of_37 : decode cX4_of 37 = .ok (.if_icmp .ne 12, 3) := by decide +kernel
theorem dX4_of_40 : decode cX4_of 40 = .ok (.aload_n 0, 1) := by decide +kernel
theorem dX4_of_41 : decode cX4_of 41 = .ok (.getfield 22, 3) := by decide +kernel
theorem dX4_of_44 : decode cX4_of 44 = .ok (.iload_n 1, 1) := by decide +kernel
theorem dX4_of_45 : decode cX4_of 45 = .ok (.iaload, 1) := by decide +kernel
theorem dX4_of_46 : decode cX4_of 46 = .ok (.goto 34, 3) := by decide +kernel
theorem dX4_of_49 : decode cX4_of 49 = .ok (.iload_n 2, 1) := by decide +kernel
theorem dX4_of_50 : decode cX4_of 50 = .ok (.iconst 2, 1) := by decide +kernel
theorem dX4_of_51 : decode cX4_of 51 = .ok (.if_icmp .ne 12, 3) := by decide +kernel
theorem dX4_of_54 : decode cX4_of 54 = .ok (.aload_n 0, 1) := by decide +kernel
theorem dX4_of_55 : decode cX4_of 55 = .ok (.getfield 25, 3) := by decide +kernel
theorem dX4_of_58 : decode cX4_of 58 = .ok (.iload_n 1, 1) := by decide +kernel
theorem dX4_of_59 : decode cX4_of 59 = .ok (.iaload, 1) := by decide +kernel
theorem dX4_of_60 : decode cX4_of 60 = .ok (.goto 20, 3) := by decide +kernel
theorem dX4_of_63 : decode cX4_of 63 = .ok (.aload_n 0, 1) := by decide +kernel
theorem dX4_of_64 : decode cX4_of 64 = .ok (.getfield 22, 3) := by decide +kernel
theorem dX4_of_67 : decode cX4_of 67 = .ok (.iload_n 1, 1) := by decide +kernel
theorem dX4_of_68 : decode cX4_of 68 = .ok (.iaload, 1) := by decide +kernel
theorem dX4_of_69 : decode cX4_of 69 = .ok (.invokestatic 181, 3) := by decide +kernel
theorem dX4_of_72 : decode cX4_of 72 = .ok (.ifCond .eq 7, 3) := by decide +kernel
theorem dX4_of_75 : decode cX4_of 75 = .ok (.iconst 1, 1) := by decide +kernel
theorem dX4_of_76 : decode cX4_of 76 = .ok (.goto 4, 3) := by decide +kernel
theorem dX4_of_79 : decode cX4_of 79 = .ok (.iconst 0, 1) := by decide +kernel
theorem dX4_of_80 : decode cX4_of 80 = .ok (.ireturn, 1) := by decide +kernel
set_option maxRecDepth 20000 in
theorem ggX4_then_X4_isFloe : GoodIn wsX4_then wsX4_isFloe := goodIn_r _ [8, 9, 10, 11, 7, 12, 36, 37, 38, 39, 40, 41, 42, 43, 44, 45, 46, 47, 48, 49, 50, 51, 52, 53, 54, 55, 56, 57, 58, 59, 60, 61, 62, 63, 64, 65] (by decide +kernel) (by decide +kernel)
set_option maxRecDepth 20000 in
theorem gX4_then_X4_isFloe : GoodIn wsX4_then (wsV RX4 200 RX4 yX4_isFloe wsX4_isFloe) := goodIn_app (goodIn_of _ (by decide +kernel)) ggX4_then_X4_isFloe
set_option maxRecDepth 20000 in
theorem ggX4_then_X4_in : GoodIn wsX4_then wsX4_in := goodIn_r _ [12] (by decide +kernel) (by decide +kernel)
set_option maxRecDepth 20000 in
theorem gX4_then_X4_in : GoodIn wsX4_then (va_wsS RX4 85 yX4_in wsX4_in) := goodIn_app (goodIn_of _ (by decide +kernel)) ggX4_then_X4_in
set_option maxRecDepth 20000 in
theorem ggX4_then_X4_bad : GoodIn wsX4_then wsX4_bad := goodIn_r _ [16, 17, 36, 37, 38, 39, 40, 41, 42, 43, 44, 45, 46, 47, 48, 49, 50, 51, 52, 53, 54, 55, 56, 57, 58, 59, 60, 61, 62, 63, 64, 65] (by decide +kernel) (by decide +kernel)
set_option maxRecDepth 20000 in
theorem gX4_then_X4_bad : GoodIn wsX4_then (wsV RX4 89 RX4 yX4_bad wsX4_bad) := goodIn_app (goodIn_of _ (by decide +kernel)) ggX4_then_X4_bad
set_option maxRecDepth 20000 in
theorem ggX4_then_X4_driftsIn : GoodIn wsX4_then wsX4_driftsIn := goodIn_r _ [21, 22, 23, 24, 25, 7, 26, 27, 28, 29, 30, 31, 32, 33, 34, 35, 36, 37, 38, 39, 40, 41, 42, 43, 44, 45, 46, 47, 48, 49, 50, 51, 52, 53, 54, 55, 56, 57, 58, 59, 60, 61, 62, 63, 64, 65] (by decide +kernel) (by decide +kernel)
set_option maxRecDepth 20000 in
theorem gX4_then_X4_driftsIn : GoodIn wsX4_then (wsV RX4 178 RX4 yX4_driftsIn wsX4_driftsIn) := goodIn_app (goodIn_of _ (by decide +kernel)) ggX4_then_X4_driftsIn
theorem dX4_then_0 : decode cX4_then 0 = .ok (.aload_n 0, 1) := by decide +kernel
theorem dX4_then_1 : decode cX4_then 1 = .ok (.iload_n 1, 1) := by decide +kernel
theorem dX4_then_2 : decode cX4_then 2 = .ok (.invokevirtual 200, 3) := by decide +kernel
theorem dX4_then_5 : decode cX4_then 5 = .ok (.ifCond .eq 13, 3) := by decide +kernel
theorem dX4_then_8 : decode cX4_then 8 = .ok (.iload_n 2, 1) := by decide +kernel
theorem dX4_then_9 : decode cX4_then 9 = .ok (.iconst 0, 1) := by decide +kernel
theorem dX4_then_10 : decode cX4_then 10 = .ok (.bipush 60, 2) := by decide +kernel
theorem dX4_then_12 : decode cX4_then 12 = .ok (.invokestatic 85, 3) := by decide +kernel
theorem dX4_then_15 : decode cX4_then 15 = .ok (.ifCond .ne 8, 3) := by decide +kernel
theorem dX4_then_18 : decode cX4_then 18 = .ok (.aload_n 0, 1) := by decide +kernel
theorem dX4_then_19 : decode cX4_then 19 = .ok (.invokevirtual 89, 3) := by decide +kernel
theorem dX4_then_22 : decode cX4_then 22 = .ok (.ireturn, 1) := by decide +kernel
theorem dX4_then_23 : decode cX4_then 23 = .ok (.aload_n 0, 1) := by decide +kernel
theorem dX4_then_24 : decode cX4_then 24 = .ok (.getfield 22, 3) := by decide +kernel
theorem dX4_then_27 : decode cX4_then 27 = .ok (.iload_n 1, 1) := by decide +kernel
theorem dX4_then_28 : decode cX4_then 28 = .ok (.iaload, 1) := by decide +kernel
theorem dX4_then_29 : decode cX4_then 29 = .ok (.istore_n 3, 1) := by decide +kernel
theorem dX4_then_30 : decode cX4_then 30 = .ok (.iconst 0, 1) := by decide +kernel
theorem dX4_then_31 : decode cX4_then 31 = .ok (.istore 4, 2) := by decide +kernel
theorem dX4_then_33 : decode cX4_then 33 = .ok (.iload 4, 2) := by decide +kernel
theorem dX4_then_35 : decode cX4_then 35 = .ok (.iload_n 2, 1) := by decide +kernel
theorem dX4_then_36 : decode cX4_then 36 = .ok (.if_icmp .ge 28, 3) := by decide +kernel
theorem dX4_then_39 : decode cX4_then 39 = .ok (.aload_n 0, 1) := by decide +kernel
theorem dX4_then_40 : decode cX4_then 40 = .ok (.aload_n 0, 1) := by decide +kernel
theorem dX4_then_41 : decode cX4_then 41 = .ok (.getfield 19, 3) := by decide +kernel
theorem dX4_then_44 : decode cX4_then 44 = .ok (.iload_n 1, 1) := by decide +kernel
theorem dX4_then_45 : decode cX4_then 45 = .ok (.iaload, 1) := by decide +kernel
theorem dX4_then_46 : decode cX4_then 46 = .ok (.iload_n 3, 1) := by decide +kernel
theorem dX4_then_47 : decode cX4_then 47 = .ok (.aload_n 0, 1) := by decide +kernel
theorem dX4_then_48 : decode cX4_then 48 = .ok (.getfield 69, 3) := by decide +kernel
theorem dX4_then_51 : decode cX4_then 51 = .ok (.iload 4, 2) := by decide +kernel
theorem dX4_then_53 : decode cX4_then 53 = .ok (.iadd, 1) := by decide +kernel
theorem dX4_then_54 : decode cX4_then 54 = .ok (.invokevirtual 178, 3) := by decide +kernel
theorem dX4_then_57 : decode cX4_then 57 = .ok (.istore_n 3, 1) := by decide +kernel
theorem dX4_then_58 : decode cX4_then 58 = .ok (.iinc 4 1, 3) := by decide +kernel
theorem dX4_then_61 : decode cX4_then 61 = .ok (.goto (-28), 3) := by decide +kernel
theorem dX4_then_64 : decode cX4_then 64 = .ok (.iload_n 3, 1) := by decide +kernel
theorem dX4_then_65 : decode cX4_then 65 = .ok (.ireturn, 1) := by decide +kernel
set_option maxRecDepth 20000 in
theorem ggX4_outFrom_X4_isOut : GoodIn wsX4_outFrom wsX4_isOut := goodIn_r _ [5] (by decide +kernel) (by decide +kernel)
set_option maxRecDepth 20000 in
theorem gX4_outFrom_X4_isOut : GoodIn wsX4_outFrom (va_wsS RX4 181 yX4_isOut wsX4_isOut) := goodIn_app (goodIn_of _ (by decide +kernel)) ggX4_outFrom_X4_isOut
set_option maxRecDepth 20000 in
theorem ggX4_outFrom_X4_driftsIn : GoodIn wsX4_outFrom wsX4_driftsIn := goodIn_r _ [9, 10, 11, 12, 13, 4, 14, 15, 16, 17, 18, 19, 20, 21, 22, 23, 24, 25, 26, 27, 28, 29, 30, 31, 32, 33, 34, 35, 36, 37, 38, 39, 40, 41, 42, 43, 44, 45, 46, 47, 48, 49, 50, 51, 52, 53] (by decide +kernel) (by decide +kernel)
set_option maxRecDepth 20000 in
theorem gX4_outFrom_X4_driftsIn : GoodIn wsX4_outFrom (wsV RX4 178 RX4 yX4_driftsIn wsX4_driftsIn) := goodIn_app (goodIn_of _ (by decide +kernel)) ggX4_outFrom_X4_driftsIn
theorem dX4_outFrom_0 : decode cX4_outFrom 0 = .ok (.iload_n 2, 1) := by decide +kernel
theorem dX4_outFrom_1 : decode cX4_outFrom 1 = .ok (.istore 4, 2) := by decide +kernel
theorem dX4_outFrom_3 : decode cX4_outFrom 3 = .ok (.iconst 0, 1) := by decide +kernel
theorem dX4_outFrom_4 : decode cX4_outFrom 4 = .ok (.istore 5, 2) := by decide +kernel
theorem dX4_outFrom_6 : decode cX4_outFrom 6 = .ok (.iload 5, 2) := by decide +kernel
theorem dX4_outFrom_8 : decode cX4_outFrom 8 = .ok (.iload_n 3, 1) := by decide +kernel
theorem dX4_outFrom_9 : decode cX4_outFrom 9 = .ok (.if_icmp .ge 33, 3) := by decide +kernel
theorem dX4_outFrom_12 : decode cX4_outFrom 12 = .ok (.iload 4, 2) := by decide +kernel
theorem dX4_outFrom_14 : decode cX4_outFrom 14 = .ok (.invokestatic 181, 3) := by decide +kernel
theorem dX4_outFrom_17 : decode cX4_outFrom 17 = .ok (.ifCond .ne 25, 3) := by decide +kernel
theorem dX4_outFrom_20 : decode cX4_outFrom 20 = .ok (.aload_n 0, 1) := by decide +kernel
theorem dX4_outFrom_21 : decode cX4_outFrom 21 = .ok (.iload_n 1, 1) := by decide +kernel
theorem dX4_outFrom_22 : decode cX4_outFrom 22 = .ok (.iload 4, 2) := by decide +kernel
theorem dX4_outFrom_24 : decode cX4_outFrom 24 = .ok (.aload_n 0, 1) := by decide +kernel
theorem dX4_outFrom_25 : decode cX4_outFrom 25 = .ok (.getfield 69, 3) := by decide +kernel
theorem dX4_outFrom_28 : decode cX4_outFrom 28 = .ok (.iload 5, 2) := by decide +kernel
theorem dX4_outFrom_30 : decode cX4_outFrom 30 = .ok (.iadd, 1) := by decide +kernel
theorem dX4_outFrom_31 : decode cX4_outFrom 31 = .ok (.invokevirtual 178, 3) := by decide +kernel
theorem dX4_outFrom_34 : decode cX4_outFrom 34 = .ok (.istore 4, 2) := by decide +kernel
theorem dX4_outFrom_36 : decode cX4_outFrom 36 = .ok (.iinc 5 1, 3) := by decide +kernel
theorem dX4_outFrom_39 : decode cX4_outFrom 39 = .ok (.goto (-33), 3) := by decide +kernel
theorem dX4_outFrom_42 : decode cX4_outFrom 42 = .ok (.iload 4, 2) := by decide +kernel
theorem dX4_outFrom_44 : decode cX4_outFrom 44 = .ok (.invokestatic 181, 3) := by decide +kernel
theorem dX4_outFrom_47 : decode cX4_outFrom 47 = .ok (.ifCond .eq 8, 3) := by decide +kernel
theorem dX4_outFrom_50 : decode cX4_outFrom 50 = .ok (.iload 5, 2) := by decide +kernel
theorem dX4_outFrom_52 : decode cX4_outFrom 52 = .ok (.goto 4, 3) := by decide +kernel
theorem dX4_outFrom_55 : decode cX4_outFrom 55 = .ok (.iconst (-1), 1) := by decide +kernel
theorem dX4_outFrom_56 : decode cX4_outFrom 56 = .ok (.ireturn, 1) := by decide +kernel
set_option maxRecDepth 20000 in
theorem ggX4_out_X4_isFloe : GoodIn wsX4_out wsX4_isFloe := goodIn_r _ [7, 8, 9, 10, 6, 11, 43, 44, 45, 46, 47, 48, 49, 50, 51, 52, 53, 54, 55, 56, 57, 58, 59, 60, 61, 62, 63, 64, 65, 66, 67, 68, 69, 70, 71, 72] (by decide +kernel) (by decide +kernel)
set_option maxRecDepth 20000 in
theorem gX4_out_X4_isFloe : GoodIn wsX4_out (wsV RX4 200 RX4 yX4_isFloe wsX4_isFloe) := goodIn_app (goodIn_of _ (by decide +kernel)) ggX4_out_X4_isFloe
set_option maxRecDepth 20000 in
theorem ggX4_out_X4_outFrom : GoodIn wsX4_out wsX4_outFrom := goodIn_r _ [15, 16, 17, 18, 6, 19, 20, 21, 22, 23, 24, 25, 26, 27, 28, 29, 30, 31, 32, 33, 34, 35, 36, 37, 43, 44, 45, 46, 47, 48, 49, 50, 51, 52, 53, 54, 55, 56, 57, 58, 59, 60, 61, 62, 63, 64, 65, 66, 67, 68, 69, 70, 71, 72] (by decide +kernel) (by decide +kernel)
set_option maxRecDepth 20000 in
theorem gX4_out_X4_outFrom : GoodIn wsX4_out (wsV RX4 209 RX4 yX4_outFrom wsX4_outFrom) := goodIn_app (goodIn_of _ (by decide +kernel)) ggX4_out_X4_outFrom
set_option maxRecDepth 20000 in
theorem ggX4_out_X4_bad : GoodIn wsX4_out wsX4_bad := goodIn_r _ [41, 42, 43, 44, 45, 46, 47, 48, 49, 50, 51, 52, 53, 54, 55, 56, 57, 58, 59, 60, 61, 62, 63, 64, 65, 66, 67, 68, 69, 70, 71, 72] (by decide +kernel) (by decide +kernel)
set_option maxRecDepth 20000 in
theorem gX4_out_X4_bad : GoodIn wsX4_out (wsV RX4 89 RX4 yX4_bad wsX4_bad) := goodIn_app (goodIn_of _ (by decide +kernel)) ggX4_out_X4_bad
theorem dX4_out_0 : decode cX4_out 0 = .ok (.aload_n 0, 1) := by decide +kernel
theorem dX4_out_1 : decode cX4_out 1 = .ok (.iload_n 1, 1) := by decide +kernel
theorem dX4_out_2 : decode cX4_out 2 = .ok (.invokevirtual 200, 3) := by decide +kernel
theorem dX4_out_5 : decode cX4_out 5 = .ok (.ifCond .eq 24, 3) := by decide +kernel
theorem dX4_out_8 : decode cX4_out 8 = .ok (.aload_n 0, 1) := by decide +kernel
theorem dX4_out_9 : decode cX4_out 9 = .ok (.aload_n 0, 1) := by decide +kernel
theorem dX4_out_10 : decode cX4_out 10 = .ok (.getfield 19, 3) := by decide +kernel
theorem dX4_out_13 : decode cX4_out 13 = .ok (.iload_n 1, 1) := by decide +kernel
theorem dX4_out_14 : decode cX4_out 14 = .ok (.iaload, 1) := by decide +kernel
theorem dX4_out_15 : decode cX4_out 15 = .ok (.aload_n 0, 1) := by decide +kernel
theorem dX4_out_16 : decode cX4_out 16 = .ok (.getfield 22, 3) := by decide +kernel
theorem dX4_out_19 : decode cX4_out 19 = .ok (.iload_n 1, 1) := by decide +kernel
theorem dX4_out_20 : decode cX4_out 20 = .ok (.iaload, 1) := by decide +kernel
theorem dX4_out_21 : decode cX4_out 21 = .ok (.bipush 60, 2) := by decide +kernel
theorem dX4_out_23 : decode cX4_out 23 = .ok (.invokevirtual 209, 3) := by decide +kernel
theorem dX4_out_26 : decode cX4_out 26 = .ok (.goto 7, 3) := by decide +kernel
theorem dX4_out_29 : decode cX4_out 29 = .ok (.aload_n 0, 1) := by decide +kernel
theorem dX4_out_30 : decode cX4_out 30 = .ok (.invokevirtual 89, 3) := by decide +kernel
theorem dX4_out_33 : decode cX4_out 33 = .ok (.ireturn, 1) := by decide +kernel
set_option maxRecDepth 20000 in
theorem ggX4_need_X4_isFloe : GoodIn wsX4_need wsX4_isFloe := goodIn_r _ [8, 9, 10, 11, 7, 12, 44, 45, 46, 47, 48, 49, 50, 51, 52, 53, 54, 55, 56, 57, 58, 59, 60, 61, 62, 63, 64, 65, 66, 67, 68, 69, 70, 71, 72, 73] (by decide +kernel) (by decide +kernel)
set_option maxRecDepth 20000 in
theorem gX4_need_X4_isFloe : GoodIn wsX4_need (wsV RX4 200 RX4 yX4_isFloe wsX4_isFloe) := goodIn_app (goodIn_of _ (by decide +kernel)) ggX4_need_X4_isFloe
set_option maxRecDepth 20000 in
theorem ggX4_need_X4_bad : GoodIn wsX4_need wsX4_bad := goodIn_r _ [16, 17, 44, 45, 46, 47, 48, 49, 50, 51, 52, 53, 54, 55, 56, 57, 58, 59, 60, 61, 62, 63, 64, 65, 66, 67, 68, 69, 70, 71, 72, 73] (by decide +kernel) (by decide +kernel)
set_option maxRecDepth 20000 in
theorem gX4_need_X4_bad : GoodIn wsX4_need (wsV RX4 89 RX4 yX4_bad wsX4_bad) := goodIn_app (goodIn_of _ (by decide +kernel)) ggX4_need_X4_bad
set_option maxRecDepth 20000 in
theorem ggX4_need_X4_outFrom : GoodIn wsX4_need wsX4_outFrom := goodIn_r _ [21, 22, 23, 24, 7, 25, 26, 27, 28, 29, 30, 31, 32, 33, 34, 35, 36, 37, 38, 39, 40, 41, 42, 43, 44, 45, 46, 47, 48, 49, 50, 51, 52, 53, 54, 55, 56, 57, 58, 59, 60, 61, 62, 63, 64, 65, 66, 67, 68, 69, 70, 71, 72, 73] (by decide +kernel) (by decide +kernel)
set_option maxRecDepth 20000 in
theorem gX4_need_X4_outFrom : GoodIn wsX4_need (wsV RX4 209 RX4 yX4_outFrom wsX4_outFrom) := goodIn_app (goodIn_of _ (by decide +kernel)) ggX4_need_X4_outFrom
theorem dX4_need_0 : decode cX4_need 0 = .ok (.aload_n 0, 1) := by decide +kernel
theorem dX4_need_1 : decode cX4_need 1 = .ok (.iload_n 1, 1) := by decide +kernel
theorem dX4_need_2 : decode cX4_need 2 = .ok (.invokevirtual 200, 3) := by decide +kernel
theorem dX4_need_5 : decode cX4_need 5 = .ok (.ifCond .ne 8, 3) := by decide +kernel
theorem dX4_need_8 : decode cX4_need 8 = .ok (.aload_n 0, 1) := by decide +kernel
theorem dX4_need_9 : decode cX4_need 9 = .ok (.invokevirtual 89, 3) := by decide +kernel
theorem dX4_need_12 : decode cX4_need 12 = .ok (.ireturn, 1) := by decide +kernel
theorem dX4_need_13 : decode cX4_need 13 = .ok (.aload_n 0, 1) := by decide +kernel
theorem dX4_need_14 : decode cX4_need 14 = .ok (.aload_n 0, 1) := by decide +kernel
theorem dX4_need_15 : decode cX4_need 15 = .ok (.getfield 19, 3) := by decide +kernel
theorem dX4_need_18 : decode cX4_need 18 = .ok (.iload_n 1, 1) := by decide +kernel
theorem dX4_need_19 : decode cX4_need 19 = .ok (.iaload, 1) := by decide +kernel
theorem dX4_need_20 : decode cX4_need 20 = .ok (.aload_n 0, 1) := by decide +kernel
theorem dX4_need_21 : decode cX4_need 21 = .ok (.getfield 22, 3) := by decide +kernel
theorem dX4_need_24 : decode cX4_need 24 = .ok (.iload_n 1, 1) := by decide +kernel
theorem dX4_need_25 : decode cX4_need 25 = .ok (.iaload, 1) := by decide +kernel
theorem dX4_need_26 : decode cX4_need 26 = .ok (.bipush 60, 2) := by decide +kernel
theorem dX4_need_28 : decode cX4_need 28 = .ok (.invokevirtual 209, 3) := by decide +kernel
theorem dX4_need_31 : decode cX4_need 31 = .ok (.istore_n 2, 1) := by decide +kernel
theorem dX4_need_32 : decode cX4_need 32 = .ok (.iload_n 2, 1) := by decide +kernel
theorem dX4_need_33 : decode cX4_need 33 = .ok (.iconst (-1), 1) := by decide +kernel
theorem dX4_need_34 : decode cX4_need 34 = .ok (.if_icmp .ne 7, 3) := by decide +kernel
theorem dX4_need_37 : decode cX4_need 37 = .ok (.iconst (-1), 1) := by decide +kernel
theorem dX4_need_38 : decode cX4_need 38 = .ok (.goto 25, 3) := by decide +kernel
theorem dX4_need_41 : decode cX4_need 41 = .ok (.iload_n 2, 1) := by decide +kernel
theorem dX4_need_42 : decode cX4_need 42 = .ok (.aload_n 0, 1) := by decide +kernel
theorem dX4_need_43 : decode cX4_need 43 = .ok (.getfield 25, 3) := by decide +kernel
theorem dX4_need_46 : decode cX4_need 46 = .ok (.iload_n 1, 1) := by decide +kernel
theorem dX4_need_47 : decode cX4_need 47 = .ok (.iaload, 1) := by decide +kernel
theorem dX4_need_48 : decode cX4_need 48 = .ok (.if_icmp .le 14, 3) := by decide +kernel
theorem dX4_need_51 : decode cX4_need 51 = .ok (.iload_n 2, 1) := by decide +kernel
theorem dX4_need_52 : decode cX4_need 52 = .ok (.aload_n 0, 1) := by decide +kernel
theorem dX4_need_53 : decode cX4_need 53 = .ok (.getfield 25, 3) := by decide +kernel
theorem dX4_need_56 : decode cX4_need 56 = .ok (.iload_n 1, 1) := by decide +kernel
theorem dX4_need_57 : decode cX4_need 57 = .ok (.iaload, 1) := by decide +kernel
theorem dX4_need_58 : decode cX4_need 58 = .ok (.isub, 1) := by decide +kernel
theorem dX4_need_59 : decode cX4_need 59 = .ok (.goto 4, 3) := by decide +kernel
theorem dX4_need_62 : decode cX4_need 62 = .ok (.iconst 0, 1) := by decide +kernel
theorem dX4_need_63 : decode cX4_need 63 = .ok (.ireturn, 1) := by decide +kernel
set_option maxRecDepth 20000 in
theorem ggX4_enter_X4_in : GoodIn wsX4_enter wsX4_in := goodIn_r _ [4] (by decide +kernel) (by decide +kernel)
set_option maxRecDepth 20000 in
theorem gX4_enter_X4_in : GoodIn wsX4_enter (va_wsS RX4 85 yX4_in wsX4_in) := goodIn_app (goodIn_of _ (by decide +kernel)) ggX4_enter_X4_in
set_option maxRecDepth 20000 in
theorem ggX4_enter_X4_bad : GoodIn wsX4_enter wsX4_bad := goodIn_r _ [8, 9, 36, 37, 38, 39, 40, 41, 42, 43, 44, 45, 46, 47, 48, 49, 50, 51, 52, 53, 54, 55, 56, 57, 58, 59, 60, 61, 62, 63, 64, 65] (by decide +kernel) (by decide +kernel)
set_option maxRecDepth 20000 in
theorem gX4_enter_X4_bad : GoodIn wsX4_enter (wsV RX4 89 RX4 yX4_bad wsX4_bad) := goodIn_app (goodIn_of _ (by decide +kernel)) ggX4_enter_X4_bad
set_option maxRecDepth 20000 in
theorem ggX4_enter_X4_outFrom : GoodIn wsX4_enter wsX4_outFrom := goodIn_r _ [13, 14, 15, 16, 3, 17, 18, 19, 20, 21, 22, 23, 24, 25, 26, 27, 28, 29, 30, 31, 32, 33, 34, 35, 36, 37, 38, 39, 40, 41, 42, 43, 44, 45, 46, 47, 48, 49, 50, 51, 52, 53, 54, 55, 56, 57, 58, 59, 60, 61, 62, 63, 64, 65] (by decide +kernel) (by decide +kernel)
set_option maxRecDepth 20000 in
theorem gX4_enter_X4_outFrom : GoodIn wsX4_enter (wsV RX4 209 RX4 yX4_outFrom wsX4_outFrom) := goodIn_app (goodIn_of _ (by decide +kernel)) ggX4_enter_X4_outFrom
theorem dX4_enter_0 : decode cX4_enter 0 = .ok (.iload_n 1, 1) := by decide +kernel
theorem dX4_enter_1 : decode cX4_enter 1 = .ok (.iconst 0, 1) := by decide +kernel
theorem dX4_enter_2 : decode cX4_enter 2 = .ok (.iconst 5, 1) := by decide +kernel
theorem dX4_enter_3 : decode cX4_enter 3 = .ok (.invokestatic 85, 3) := by decide +kernel
theorem dX4_enter_6 : decode cX4_enter 6 = .ok (.ifCond .eq 13, 3) := by decide +kernel
theorem dX4_enter_9 : decode cX4_enter 9 = .ok (.iload_n 2, 1) := by decide +kernel
theorem dX4_enter_10 : decode cX4_enter 10 = .ok (.iconst 0, 1) := by decide +kernel
theorem dX4_enter_11 : decode cX4_enter 11 = .ok (.bipush 60, 2) := by decide +kernel
theorem dX4_enter_13 : decode cX4_enter 13 = .ok (.invokestatic 85, 3) := by decide +kernel
theorem dX4_enter_16 : decode cX4_enter 16 = .ok (.ifCond .ne 8, 3) := by decide +kernel
theorem dX4_enter_19 : decode cX4_enter 19 = .ok (.aload_n 0, 1) := by decide +kernel
theorem dX4_enter_20 : decode cX4_enter 20 = .ok (.invokevirtual 89, 3) := by decide +kernel
theorem dX4_enter_23 : decode cX4_enter 23 = .ok (.ireturn, 1) := by decide +kernel
theorem dX4_enter_24 : decode cX4_enter 24 = .ok (.iconst 0, 1) := by decide +kernel
theorem dX4_enter_25 : decode cX4_enter 25 = .ok (.istore_n 3, 1) := by decide +kernel
theorem dX4_enter_26 : decode cX4_enter 26 = .ok (.iconst 0, 1) := by decide +kernel
theorem dX4_enter_27 : decode cX4_enter 27 = .ok (.istore 4, 2) := by decide +kernel
theorem dX4_enter_29 : decode cX4_enter 29 = .ok (.iload 4, 2) := by decide +kernel
theorem dX4_enter_31 : decode cX4_enter 31 = .ok (.bipush 6, 2) := by decide +kernel
theorem dX4_enter_33 : decode cX4_enter 33 = .ok (.if_icmp .ge 35, 3) := by decide +kernel
theorem dX4_enter_36 : decode cX4_enter 36 = .ok (.iload_n 3, 1) := by decide +kernel
theorem dX4_enter_37 : decode cX4_enter 37 = .ok (.aload_n 0, 1) := by decide +kernel
theorem dX4_enter_38 : decode cX4_enter 38 = .ok (.iload_n 1, 1) := by decide +kernel
theorem dX4_enter_39 : decode cX4_enter 39 = .ok (.bipush 6, 2) := by decide +kernel
theorem dX4_enter_41 : decode cX4_enter 41 = .ok (.iload 4, 2) := by decide +kernel
theorem dX4_enter_43 : decode cX4_enter 43 = .ok (.imul, 1) := by decide +kernel
theorem dX4_enter_44 : decode cX4_enter 44 = .ok (.iload_n 2, 1) := by decide +kernel
theorem dX4_enter_45 : decode cX4_enter 45 = .ok (.invokevirtual 209, 3) := by decide +kernel
theorem dX4_enter_48 : decode cX4_enter 48 = .ok (.iconst (-1), 1) := by decide +kernel
theorem dX4_enter_49 : decode cX4_enter 49 = .ok (.if_icmp .ne 7, 3) := by decide +kernel
theorem dX4_enter_52 : decode cX4_enter 52 = .ok (.iconst 0, 1) := by decide +kernel
theorem dX4_enter_53 : decode cX4_enter 53 = .ok (.goto 7, 3) := by decide +kernel
theorem dX4_enter_56 : decode cX4_enter 56 = .ok (.iconst 1, 1) := by decide +kernel
theorem dX4_enter_57 : decode cX4_enter 57 = .ok (.iload 4, 2) := by decide +kernel
theorem dX4_enter_59 : decode cX4_enter 59 = .ok (.ishl, 1) := by decide +kernel
theorem dX4_enter_60 : decode cX4_enter 60 = .ok (.ior, 1) := by decide +kernel
theorem dX4_enter_61 : decode cX4_enter 61 = .ok (.istore_n 3, 1) := by decide +kernel
theorem dX4_enter_62 : decode cX4_enter 62 = .ok (.iinc 4 1, 3) := by decide +kernel
theorem dX4_enter_65 : decode cX4_enter 65 = .ok (.goto (-36), 3) := by decide +kernel
theorem dX4_enter_68 : decode cX4_enter 68 = .ok (.iload_n 3, 1) := by decide +kernel
theorem dX4_enter_69 : decode cX4_enter 69 = .ok (.ireturn, 1) := by decide +kernel
set_option maxRecDepth 20000 in
theorem ggX4_nearest_X4_isFloe : GoodIn wsX4_nearest wsX4_isFloe := goodIn_r _ [8, 9, 10, 11, 7, 12, 42, 43, 44, 45, 46, 47, 48, 49, 50, 51, 52, 53, 54, 55, 56, 57, 58, 59, 60, 61, 62, 63, 64, 65, 66, 67, 68, 69, 70, 71] (by decide +kernel) (by decide +kernel)
set_option maxRecDepth 20000 in
theorem gX4_nearest_X4_isFloe : GoodIn wsX4_nearest (wsV RX4 200 RX4 yX4_isFloe wsX4_isFloe) := goodIn_app (goodIn_of _ (by decide +kernel)) ggX4_nearest_X4_isFloe
set_option maxRecDepth 20000 in
theorem ggX4_nearest_X4_in : GoodIn wsX4_nearest wsX4_in := goodIn_r _ [12] (by decide +kernel) (by decide +kernel)
set_option maxRecDepth 20000 in
theorem gX4_nearest_X4_in : GoodIn wsX4_nearest (va_wsS RX4 85 yX4_in wsX4_in) := goodIn_app (goodIn_of _ (by decide +kernel)) ggX4_nearest_X4_in
set_option maxRecDepth 20000 in
theorem ggX4_nearest_X4_bad : GoodIn wsX4_nearest wsX4_bad := goodIn_r _ [16, 17, 42, 43, 44, 45, 46, 47, 48, 49, 50, 51, 52, 53, 54, 55, 56, 57, 58, 59, 60, 61, 62, 63, 64, 65, 66, 67, 68, 69, 70, 71] (by decide +kernel) (by decide +kernel)
set_option maxRecDepth 20000 in
theorem gX4_nearest_X4_bad : GoodIn wsX4_nearest (wsV RX4 89 RX4 yX4_bad wsX4_bad) := goodIn_app (goodIn_of _ (by decide +kernel)) ggX4_nearest_X4_bad
set_option maxRecDepth 20000 in
theorem ggX4_nearest_X4_far : GoodIn wsX4_nearest wsX4_far := goodIn_r _ [20] (by decide +kernel) (by decide +kernel)
set_option maxRecDepth 20000 in
theorem gX4_nearest_X4_far : GoodIn wsX4_nearest (va_wsS RX4 212 yX4_far wsX4_far) := goodIn_app (goodIn_of _ (by decide +kernel)) ggX4_nearest_X4_far
set_option maxRecDepth 20000 in
theorem ggX4_nearest_X4_driftsIn : GoodIn wsX4_nearest wsX4_driftsIn := goodIn_r _ [24, 25, 26, 27, 28, 7, 29, 30, 31, 32, 33, 34, 35, 36, 37, 38, 42, 43, 44, 45, 46, 47, 48, 49, 50, 51, 52, 53, 54, 55, 56, 57, 58, 59, 60, 61, 62, 63, 64, 65, 66, 67, 68, 69, 70, 71] (by decide +kernel) (by decide +kernel)
set_option maxRecDepth 20000 in
theorem gX4_nearest_X4_driftsIn : GoodIn wsX4_nearest (wsV RX4 178 RX4 yX4_driftsIn wsX4_driftsIn) := goodIn_app (goodIn_of _ (by decide +kernel)) ggX4_nearest_X4_driftsIn
set_option maxRecDepth 20000 in
theorem ggX4_nearest_X4_lesser : GoodIn wsX4_nearest wsX4_lesser := goodIn_r _ [41] (by decide +kernel) (by decide +kernel)
set_option maxRecDepth 20000 in
theorem gX4_nearest_X4_lesser : GoodIn wsX4_nearest (va_wsS RX4 203 yX4_lesser wsX4_lesser) := goodIn_app (goodIn_of _ (by decide +kernel)) ggX4_nearest_X4_lesser
theorem dX4_nearest_0 : decode cX4_nearest 0 = .ok (.aload_n 0, 1) := by decide +kernel
theorem dX4_nearest_1 : decode cX4_nearest 1 = .ok (.iload_n 1, 1) := by decide +kernel
theorem dX4_nearest_2 : decode cX4_nearest 2 = .ok (.invokevirtual 200, 3) := by decide +kernel
theorem dX4_nearest_5 : decode cX4_nearest 5 = .ok (.ifCond .eq 25, 3) := by decide +kernel
theorem dX4_nearest_8 : decode cX4_nearest 8 = .ok (.aload_n 0, 1) := by decide +kernel
theorem dX4_nearest_9 : decode cX4_nearest 9 = .ok (.iload_n 2, 1) := by decide +kernel
theorem dX4_nearest_10 : decode cX4_nearest 10 = .ok (.invokevirtual 200, 3) := by decide +kernel
theorem dX4_nearest_13 : decode cX4_nearest 13 = .ok (.ifCond .eq 17, 3) := by decide +kernel
theorem dX4_nearest_16 : decode cX4_nearest 16 = .ok (.iload_n 1, 1) := by decide +kernel
theorem dX4_nearest_17 : decode cX4_nearest 17 = .ok (.iload_n 2, 1) := by decide +kernel
theorem dX4_nearest_18 : decode cX4_nearest 18 = .ok (.if_icmp .eq 12, 3) := by decide +kernel
theorem dX4_nearest_21 : decode cX4_nearest 21 = .ok (.iload_n 3, 1) := by decide +kernel
theorem dX4_nearest_22 : decode cX4_nearest 22 = .ok (.iconst 0, 1) := by decide +kernel
theorem dX4_nearest_23 : decode cX4_nearest 23 = .ok (.iconst 1, 1) := by decide +kernel
theorem dX4_nearest_24 : decode cX4_nearest 24 = .ok (.invokestatic 85, 3) := by decide +kernel
theorem dX4_nearest_27 : decode cX4_nearest 27 = .ok (.ifCond .ne 8, 3) := by decide +kernel
theorem dX4_nearest_30 : decode cX4_nearest 30 = .ok (.aload_n 0, 1) := by decide +kernel
theorem dX4_nearest_31 : decode cX4_nearest 31 = .ok (.invokevirtual 89, 3) := by decide +kernel
theorem dX4_nearest_34 : decode cX4_nearest 34 = .ok (.ireturn, 1) := by decide +kernel
theorem dX4_nearest_35 : decode cX4_nearest 35 = .ok (.aload_n 0, 1) := by decide +kernel
theorem dX4_nearest_36 : decode cX4_nearest 36 = .ok (.getfield 22, 3) := by decide +kernel
theorem dX4_nearest_39 : decode cX4_nearest 39 = .ok (.iload_n 1, 1) := by decide +kernel
theorem dX4_nearest_40 : decode cX4_nearest 40 = .ok (.iaload, 1) := by decide +kernel
theorem dX4_nearest_41 : decode cX4_nearest 41 = .ok (.istore 4, 2) := by decide +kernel
theorem dX4_nearest_43 : decode cX4_nearest 43 = .ok (.aload_n 0, 1) := by decide +kernel
theorem dX4_nearest_44 : decode cX4_nearest 44 = .ok (.getfield 22, 3) := by decide +kernel
theorem dX4_nearest_47 : decode cX4_nearest 47 = .ok (.iload_n 2, 1) := by decide +kernel
theorem dX4_nearest_48 : decode cX4_nearest 48 = .ok (.iaload, 1) := by decide +kernel
theorem dX4_nearest_49 : decode cX4_nearest 49 = .ok (.istore 5, 2) := by decide +kernel
theorem dX4_nearest_51 : decode cX4_nearest 51 = .ok (.iconst 0, 1) := by decide +kernel
theorem dX4_nearest_52 : decode cX4_nearest 52 = .ok (.istore 6, 2) := by decide +kernel
theorem dX4_nearest_54 : decode cX4_nearest 54 = .ok (.iload 4, 2) := by decide +kernel
theorem dX4_nearest_56 : decode cX4_nearest 56 = .ok (.iload 5, 2) := by decide +kernel
theorem dX4_nearest_58 : decode cX4_nearest 58 = .ok (.invokestatic 212, 3) := by decide +kernel
theorem dX4_nearest_61 : decode cX4_nearest 61 = .ok (.istore 7, 2) := by decide +kernel
theorem dX4_nearest_63 : decode cX4_nearest 63 = .ok (.iconst 1, 1) := by decide +kernel
theorem dX4_nearest_64 : decode cX4_nearest 64 = .ok (.istore 8, 2) := by decide +kernel
theorem dX4_nearest_66 : decode cX4_nearest 66 = .ok (.iload 8, 2) := by decide +kernel
theorem dX4_nearest_68 : decode cX4_nearest 68 = .ok (.bipush 60, 2) := by decide +kernel
theorem dX4_nearest_70 : decode cX4_nearest 70 = .ok (.if_icmp .gt 90, 3) := by decide +kernel
theorem dX4_nearest_73 : decode cX4_nearest 73 = .ok (.aload_n 0, 1) := by decide +kernel
theorem dX4_nearest_74 : decode cX4_nearest 74 = .ok (.aload_n 0, 1) := by decide +kernel
theorem dX4_nearest_75 : decode cX4_nearest 75 = .ok (.getfield 19, 3) := by decide +kernel
theorem dX4_nearest_78 : decode cX4_nearest 78 = .ok (.iload_n 1, 1) := by decide +kernel
theorem dX4_nearest_79 : decode cX4_nearest 79 = .ok (.iaload, 1) := by decide +kernel
theorem dX4_nearest_80 : decode cX4_nearest 80 = .ok (.iload 4, 2) := by decide +kernel
theorem dX4_nearest_82 : decode cX4_nearest 82 = .ok (.aload_n 0, 1) := by decide +kernel
theorem dX4_nearest_83 : decode cX4_nearest 83 = .ok (.getfield 69, 3) := by decide +kernel
theorem dX4_nearest_86 : decode cX4_nearest 86 = .ok (.iload 8, 2) := by decide +kernel
theorem dX4_nearest_88 : decode cX4_nearest 88 = .ok (.iadd, 1) := by decide +kernel
theorem dX4_nearest_89 : decode cX4_nearest 89 = .ok (.iconst 1, 1) := by decide +kernel
theorem dX4_nearest_90 : decode cX4_nearest 90 = .ok (.isub, 1) := by decide +kernel
theorem dX4_nearest_91 : decode cX4_nearest 91 = .ok (.invokevirtual 178, 3) := by decide +kernel
theorem dX4_nearest_94 : decode cX4_nearest 94 = .ok (.istore 4, 2) := by decide +kernel
theorem dX4_nearest_96 : decode cX4_nearest 96 = .ok (.aload_n 0, 1) := by decide +kernel
theorem dX4_nearest_97 : decode cX4_nearest 97 = .ok (.aload_n 0, 1) := by decide +kernel
theorem dX4_nearest_98 : decode cX4_nearest 98 = .ok (.getfield 19, 3) := by decide +kernel
theorem dX4_nearest_101 : decode cX4_nearest 101 = .ok (.iload_n 2, 1) := by decide +kernel
theorem dX4_nearest_102 : decode cX4_nearest 102 = .ok (.iaload, 1) := by decide +kernel
theorem dX4_nearest_103 : decode cX4_nearest 103 = .ok (.iload 5, 2) := by decide +kernel
theorem dX4_nearest_105 : decode cX4_nearest 105 = .ok (.aload_n 0, 1) := by decide +kernel
theorem dX4_nearest_106 : decode cX4_nearest 106 = .ok (.getfield 69, 3) := by decide +kernel
theorem dX4_nearest_109 : decode cX4_nearest 109 = .ok (.iload 8, 2) := by decide +kernel
theorem dX4_nearest_111 : decode cX4_nearest 111 = .ok (.iadd, 1) := by decide +kernel
theorem dX4_nearest_112 : decode cX4_nearest 112 = .ok (.iconst 1, 1) := by decide +kernel
theorem dX4_nearest_113 : decode cX4_nearest 113 = .ok (.isub, 1) := by decide +kernel
theorem dX4_nearest_114 : decode cX4_nearest 114 = .ok (.invokevirtual 178, 3) := by decide +kernel
theorem dX4_nearest_117 : decode cX4_nearest 117 = .ok (.istore 5, 2) := by decide +kernel
theorem dX4_nearest_119 : decode cX4_nearest 119 = .ok (.iload 4, 2) := by decide +kernel
theorem dX4_nearest_121 : decode cX4_nearest 121 = .ok (.iload 5, 2) := by decide +kernel
theorem dX4_nearest_123 : decode cX4_nearest 123 = .ok (.invokestatic 212, 3) := by decide +kernel
theorem dX4_nearest_126 : decode cX4_nearest 126 = .ok (.iload 7, 2) := by decide +kernel
theorem dX4_nearest_128 : decode cX4_nearest 128 = .ok (.if_icmp .ge 8, 3) := by decide +kernel
theorem dX4_nearest_131 : decode cX4_nearest 131 = .ok (.iload 8, 2) := by decide +kernel
theorem dX4_nearest_133 : decode cX4_nearest 133 = .ok (.goto 5, 3) := by decide +kernel
theorem dX4_nearest_136 : decode cX4_nearest 136 = .ok (.iload 6, 2) := by decide +kernel
theorem dX4_nearest_138 : decode cX4_nearest 138 = .ok (.istore 6, 2) := by decide +kernel
theorem dX4_nearest_140 : decode cX4_nearest 140 = .ok (.iload 7, 2) := by decide +kernel
theorem dX4_nearest_142 : decode cX4_nearest 142 = .ok (.iload 4, 2) := by decide +kernel
theorem dX4_nearest_144 : decode cX4_nearest 144 = .ok (.iload 5, 2) := by decide +kernel
theorem dX4_nearest_146 : decode cX4_nearest 146 = .ok (.invokestatic 212, 3) := by decide +kernel
theorem dX4_nearest_149 : decode cX4_nearest 149 = .ok (.invokestatic 203, 3) := by decide +kernel
theorem dX4_nearest_152 : decode cX4_nearest 152 = .ok (.istore 7, 2) := by decide +kernel
theorem dX4_nearest_154 : decode cX4_nearest 154 = .ok (.iinc 8 1, 3) := by decide +kernel
theorem dX4_nearest_157 : decode cX4_nearest 157 = .ok (.goto (-91), 3) := by decide +kernel
theorem dX4_nearest_160 : decode cX4_nearest 160 = .ok (.iload_n 3, 1) := by decide +kernel
theorem dX4_nearest_161 : decode cX4_nearest 161 = .ok (.ifCond .ne 8, 3) := by decide +kernel
theorem dX4_nearest_164 : decode cX4_nearest 164 = .ok (.iload 6, 2) := by decide +kernel
theorem dX4_nearest_166 : decode cX4_nearest 166 = .ok (.goto 5, 3) := by decide +kernel
theorem dX4_nearest_169 : decode cX4_nearest 169 = .ok (.iload 7, 2) := by decide +kernel
theorem dX4_nearest_171 : decode cX4_nearest 171 = .ok (.ireturn, 1) := by decide +kernel
set_option maxRecDepth 20000 in
theorem ggX4_dogs_X4_isFloe : GoodIn wsX4_dogs wsX4_isFloe := goodIn_r _ [8, 9, 10, 11, 7, 12, 39, 40, 41, 42, 43, 44, 45, 46, 47, 48, 49, 50, 51, 52, 53, 54, 55, 56, 57, 58, 59, 60, 61, 62, 63, 64, 65, 66, 67, 68] (by decide +kernel) (by decide +kernel)
set_option maxRecDepth 20000 in
theorem gX4_dogs_X4_isFloe : GoodIn wsX4_dogs (wsV RX4 200 RX4 yX4_isFloe wsX4_isFloe) := goodIn_app (goodIn_of _ (by decide +kernel)) ggX4_dogs_X4_isFloe
set_option maxRecDepth 20000 in
theorem ggX4_dogs_X4_in : GoodIn wsX4_dogs wsX4_in := goodIn_r _ [12] (by decide +kernel) (by decide +kernel)
set_option maxRecDepth 20000 in
theorem gX4_dogs_X4_in : GoodIn wsX4_dogs (va_wsS RX4 85 yX4_in wsX4_in) := goodIn_app (goodIn_of _ (by decide +kernel)) ggX4_dogs_X4_in
set_option maxRecDepth 20000 in
theorem ggX4_dogs_X4_bad : GoodIn wsX4_dogs wsX4_bad := goodIn_r _ [16, 17, 39, 40, 41, 42, 43, 44, 45, 46, 47, 48, 49, 50, 51, 52, 53, 54, 55, 56, 57, 58, 59, 60, 61, 62, 63, 64, 65, 66, 67, 68] (by decide +kernel) (by decide +kernel)
set_option maxRecDepth 20000 in
theorem gX4_dogs_X4_bad : GoodIn wsX4_dogs (wsV RX4 89 RX4 yX4_bad wsX4_bad) := goodIn_app (goodIn_of _ (by decide +kernel)) ggX4_dogs_X4_bad
set_option maxRecDepth 20000 in
theorem ggX4_dogs_X4_far : GoodIn wsX4_dogs wsX4_far := goodIn_r _ [20] (by decide +kernel) (by decide +kernel)
set_option maxRecDepth 20000 in
theorem gX4_dogs_X4_far : GoodIn wsX4_dogs (va_wsS RX4 212 yX4_far wsX4_far) := goodIn_app (goodIn_of _ (by decide +kernel)) ggX4_dogs_X4_far
set_option maxRecDepth 20000 in
theorem ggX4_dogs_X4_driftsIn : GoodIn wsX4_dogs wsX4_driftsIn := goodIn_r _ [24, 25, 26, 27, 28, 7, 29, 30, 31, 32, 33, 34, 35, 36, 37, 38, 39, 40, 41, 42, 43, 44, 45, 46, 47, 48, 49, 50, 51, 52, 53, 54, 55, 56, 57, 58, 59, 60, 61, 62, 63, 64, 65, 66, 67, 68] (by decide +kernel) (by decide +kernel)
set_option maxRecDepth 20000 in
theorem gX4_dogs_X4_driftsIn : GoodIn wsX4_dogs (wsV RX4 178 RX4 yX4_driftsIn wsX4_driftsIn) := goodIn_app (goodIn_of _ (by decide +kernel)) ggX4_dogs_X4_driftsIn
theorem dX4_dogs_0 : decode cX4_dogs 0 = .ok (.aload_n 0, 1) := by decide +kernel
theorem dX4_dogs_1 : decode cX4_dogs 1 = .ok (.iload_n 1, 1) := by decide +kernel
theorem dX4_dogs_2 : decode cX4_dogs 2 = .ok (.invokevirtual 200, 3) := by decide +kernel
theorem dX4_dogs_5 : decode cX4_dogs 5 = .ok (.ifCond .eq 12, 3) := by decide +kernel
theorem dX4_dogs_8 : decode cX4_dogs 8 = .ok (.iload_n 2, 1) := by decide +kernel
theorem dX4_dogs_9 : decode cX4_dogs 9 = .ok (.iconst 0, 1) := by decide +kernel
theorem dX4_dogs_10 : decode cX4_dogs 10 = .ok (.iconst 1, 1) := by decide +kernel
theorem dX4_dogs_11 : decode cX4_dogs 11 = .ok (.invokestatic 85, 3) := by decide +kernel
theorem dX4_dogs_14 : decode cX4_dogs 14 = .ok (.ifCond .ne 8, 3) := by decide +kernel
theorem dX4_dogs_17 : decode cX4_dogs 17 = .ok (.aload_n 0, 1) := by decide +kernel
theorem dX4_dogs_18 : decode cX4_dogs 18 = .ok (.invokevirtual 89, 3) := by decide +kernel
theorem dX4_dogs_21 : decode cX4_dogs 21 = .ok (.ireturn, 1) := by decide +kernel
theorem dX4_dogs_22 : decode cX4_dogs 22 = .ok (.aload_n 0, 1) := by decide +kernel
theorem dX4_dogs_23 : decode cX4_dogs 23 = .ok (.getfield 22, 3) := by decide +kernel
theorem dX4_dogs_26 : decode cX4_dogs 26 = .ok (.iload_n 1, 1) := by decide +kernel
theorem dX4_dogs_27 : decode cX4_dogs 27 = .ok (.iaload, 1) := by decide +kernel
theorem dX4_dogs_28 : decode cX4_dogs 28 = .ok (.bipush 14, 2) := by decide +kernel
theorem dX4_dogs_30 : decode cX4_dogs 30 = .ok (.invokestatic 212, 3) := by decide +kernel
theorem dX4_dogs_33 : decode cX4_dogs 33 = .ok (.iconst 1, 1) := by decide +kernel
theorem dX4_dogs_34 : decode cX4_dogs 34 = .ok (.iadd, 1) := by decide +kernel
theorem dX4_dogs_35 : decode cX4_dogs 35 = .ok (.iconst 2, 1) := by decide +kernel
theorem dX4_dogs_36 : decode cX4_dogs 36 = .ok (.idiv, 1) := by decide +kernel
theorem dX4_dogs_37 : decode cX4_dogs 37 = .ok (.istore_n 3, 1) := by decide +kernel
theorem dX4_dogs_38 : decode cX4_dogs 38 = .ok (.iload_n 3, 1) := by decide +kernel
theorem dX4_dogs_39 : decode cX4_dogs 39 = .ok (.ifCond .ne 7, 3) := by decide +kernel
theorem dX4_dogs_42 : decode cX4_dogs 42 = .ok (.iconst 1, 1) := by decide +kernel
theorem dX4_dogs_43 : decode cX4_dogs 43 = .ok (.goto 4, 3) := by decide +kernel
theorem dX4_dogs_46 : decode cX4_dogs 46 = .ok (.iload_n 3, 1) := by decide +kernel
theorem dX4_dogs_47 : decode cX4_dogs 47 = .ok (.istore_n 3, 1) := by decide +kernel
theorem dX4_dogs_48 : decode cX4_dogs 48 = .ok (.iload_n 2, 1) := by decide +kernel
theorem dX4_dogs_49 : decode cX4_dogs 49 = .ok (.iconst 1, 1) := by decide +kernel
theorem dX4_dogs_50 : decode cX4_dogs 50 = .ok (.if_icmp .ne 5, 3) := by decide +kernel
theorem dX4_dogs_53 : decode cX4_dogs 53 = .ok (.iload_n 3, 1) := by decide +kernel
theorem dX4_dogs_54 : decode cX4_dogs 54 = .ok (.ireturn, 1) := by decide +kernel
theorem dX4_dogs_55 : decode cX4_dogs 55 = .ok (.aload_n 0, 1) := by decide +kernel
theorem dX4_dogs_56 : decode cX4_dogs 56 = .ok (.getfield 22, 3) := by decide +kernel
theorem dX4_dogs_59 : decode cX4_dogs 59 = .ok (.iload_n 1, 1) := by decide +kernel
theorem dX4_dogs_60 : decode cX4_dogs 60 = .ok (.iaload, 1) := by decide +kernel
theorem dX4_dogs_61 : decode cX4_dogs 61 = .ok (.istore 4, 2) := by decide +kernel
theorem dX4_dogs_63 : decode cX4_dogs 63 = .ok (.iconst 0, 1) := by decide +kernel
theorem dX4_dogs_64 : decode cX4_dogs 64 = .ok (.istore 5, 2) := by decide +kernel
theorem dX4_dogs_66 : decode cX4_dogs 66 = .ok (.iconst 0, 1) := by decide +kernel
theorem dX4_dogs_67 : decode cX4_dogs 67 = .ok (.istore 6, 2) := by decide +kernel
theorem dX4_dogs_69 : decode cX4_dogs 69 = .ok (.iload 5, 2) := by decide +kernel
theorem dX4_dogs_71 : decode cX4_dogs 71 = .ok (.bipush 30, 2) := by decide +kernel
theorem dX4_dogs_73 : decode cX4_dogs 73 = .ok (.if_icmp .ge 64, 3) := by decide +kernel
theorem dX4_dogs_76 : decode cX4_dogs 76 = .ok (.iload 6, 2) := by decide +kernel
theorem dX4_dogs_78 : decode cX4_dogs 78 = .ok (.ifCond .ne 59, 3) := by decide +kernel
theorem dX4_dogs_81 : decode cX4_dogs 81 = .ok (.aload_n 0, 1) := by decide +kernel
theorem dX4_dogs_82 : decode cX4_dogs 82 = .ok (.aload_n 0, 1) := by decide +kernel
theorem dX4_dogs_83 : decode cX4_dogs 83 = .ok (.getfield 19, 3) := by decide +kernel
theorem dX4_dogs_86 : decode cX4_dogs 86 = .ok (.iload_n 1, 1) := by decide +kernel
theorem dX4_dogs_87 : decode cX4_dogs 87 = .ok (.iaload, 1) := by decide +kernel
theorem dX4_dogs_88 : decode cX4_dogs 88 = .ok (.iload 4, 2) := by decide +kernel
theorem dX4_dogs_90 : decode cX4_dogs 90 = .ok (.aload_n 0, 1) := by decide +kernel
theorem dX4_dogs_91 : decode cX4_dogs 91 = .ok (.getfield 69, 3) := by decide +kernel
theorem dX4_dogs_94 : decode cX4_dogs 94 = .ok (.iload 5, 2) := by decide +kernel
theorem dX4_dogs_96 : decode cX4_dogs 96 = .ok (.iadd, 1) := by decide +kernel
theorem dX4_dogs_97 : decode cX4_dogs 97 = .ok (.invokevirtual 178, 3) := by decide +kernel
theorem dX4_dogs_100 : decode cX4_dogs 100 = .ok (.istore 4, 2) := by decide +kernel
theorem dX4_dogs_102 : decode cX4_dogs 102 = .ok (.iinc 5 1, 3) := by decide +kernel
theorem dX4_dogs_105 : decode cX4_dogs 105 = .ok (.iload 5, 2) := by decide +kernel
theorem dX4_dogs_107 : decode cX4_dogs 107 = .ok (.iload_n 3, 1) := by decide +kernel
theorem dX4_dogs_108 : decode cX4_dogs 108 = .ok (.if_icmp .lt 23, 3) := by decide +kernel
theorem dX4_dogs_111 : decode cX4_dogs 111 = .ok (.bipush 14, 2) := by decide +kernel
theorem dX4_dogs_113 : decode cX4_dogs 113 = .ok (.iload 4, 2) := by decide +kernel
theorem dX4_dogs_115 : decode cX4_dogs 115 = .ok (.invokestatic 212, 3) := by decide +kernel
theorem dX4_dogs_118 : decode cX4_dogs 118 = .ok (.iconst 2, 1) := by decide +kernel
theorem dX4_dogs_119 : decode cX4_dogs 119 = .ok (.iload 5, 2) := by decide +kernel
theorem dX4_dogs_121 : decode cX4_dogs 121 = .ok (.iload_n 3, 1) := by decide +kernel
theorem dX4_dogs_122 : decode cX4_dogs 122 = .ok (.isub, 1) := by decide +kernel
theorem dX4_dogs_123 : decode cX4_dogs 123 = .ok (.imul, 1) := by decide +kernel
theorem dX4_dogs_124 : decode cX4_dogs 124 = .ok (.if_icmp .gt 7, 3) := by decide +kernel
theorem dX4_dogs_127 : decode cX4_dogs 127 = .ok (.iconst 1, 1) := by decide +kernel
theorem dX4_dogs_128 : decode cX4_dogs 128 = .ok (.goto 4, 3) := by decide +kernel
theorem dX4_dogs_131 : decode cX4_dogs 131 = .ok (.iconst 0, 1) := by decide +kernel
theorem dX4_dogs_132 : decode cX4_dogs 132 = .ok (.istore 6, 2) := by decide +kernel
theorem dX4_dogs_134 : decode cX4_dogs 134 = .ok (.goto (-65), 3) := by decide +kernel
theorem dX4_dogs_137 : decode cX4_dogs 137 = .ok (.iload 6, 2) := by decide +kernel
theorem dX4_dogs_139 : decode cX4_dogs 139 = .ok (.ifCond .eq 8, 3) := by decide +kernel
theorem dX4_dogs_142 : decode cX4_dogs 142 = .ok (.iload 5, 2) := by decide +kernel
theorem dX4_dogs_144 : decode cX4_dogs 144 = .ok (.goto 4, 3) := by decide +kernel
theorem dX4_dogs_147 : decode cX4_dogs 147 = .ok (.iconst (-1), 1) := by decide +kernel
theorem dX4_dogs_148 : decode cX4_dogs 148 = .ok (.ireturn, 1) := by decide +kernel
set_option maxRecDepth 20000 in
theorem ggX4_found_X4_in : GoodIn wsX4_found wsX4_in := goodIn_r _ [8] (by decide +kernel) (by decide +kernel)
set_option maxRecDepth 20000 in
theorem gX4_found_X4_in : GoodIn wsX4_found (va_wsS RX4 85 yX4_in wsX4_in) := goodIn_app (goodIn_of _ (by decide +kernel)) ggX4_found_X4_in
set_option maxRecDepth 20000 in
theorem ggX4_found_X4_isCell : GoodIn wsX4_found wsX4_isCell := goodIn_r _ [11, 5, 6, 7, 8] (by decide +kernel) (by decide +kernel)
set_option maxRecDepth 20000 in
theorem gX4_found_X4_isCell : GoodIn wsX4_found (va_wsS RX4 93 yX4_isCell wsX4_isCell) := goodIn_app (goodIn_of _ (by decide +kernel)) ggX4_found_X4_isCell
set_option maxRecDepth 20000 in
theorem ggX4_found_X4_bad : GoodIn wsX4_found wsX4_bad := goodIn_r _ [15, 16, 21, 22, 23, 24, 25, 26, 27, 28, 29, 30, 31, 32, 33, 34, 35, 36, 37, 38, 39, 40, 41, 42, 43, 44, 45, 46, 47, 48, 49, 50] (by decide +kernel) (by decide +kernel)
set_option maxRecDepth 20000 in
theorem gX4_found_X4_bad : GoodIn wsX4_found (wsV RX4 89 RX4 yX4_bad wsX4_bad) := goodIn_app (goodIn_of _ (by decide +kernel)) ggX4_found_X4_bad
set_option maxRecDepth 20000 in
theorem ggX4_found_X4_full : GoodIn wsX4_found wsX4_full := goodIn_r _ [20, 16, 21, 22, 23, 24, 25, 26, 27, 28, 29, 30, 31, 32, 33, 34, 35, 36, 37, 38, 39, 40, 41, 42, 43, 44, 45, 46, 47, 48, 49, 50] (by decide +kernel) (by decide +kernel)
set_option maxRecDepth 20000 in
theorem gX4_found_X4_full : GoodIn wsX4_found (wsV RX4 97 RX4 yX4_full wsX4_full) := goodIn_app (goodIn_of _ (by decide +kernel)) ggX4_found_X4_full
theorem dX4_found_0 : decode cX4_found 0 = .ok (.iload_n 1, 1) := by decide +kernel
theorem dX4_found_1 : decode cX4_found 1 = .ok (.iconst 0, 1) := by decide +kernel
theorem dX4_found_2 : decode cX4_found 2 = .ok (.iconst 5, 1) := by decide +kernel
theorem dX4_found_3 : decode cX4_found 3 = .ok (.invokestatic 85, 3) := by decide +kernel
theorem dX4_found_6 : decode cX4_found 6 = .ok (.ifCond .eq 20, 3) := by decide +kernel
theorem dX4_found_9 : decode cX4_found 9 = .ok (.iload_n 2, 1) := by decide +kernel
theorem dX4_found_10 : decode cX4_found 10 = .ok (.iconst 1, 1) := by decide +kernel
theorem dX4_found_11 : decode cX4_found 11 = .ok (.bipush 60, 2) := by decide +kernel
theorem dX4_found_13 : decode cX4_found 13 = .ok (.invokestatic 85, 3) := by decide +kernel
theorem dX4_found_16 : decode cX4_found 16 = .ok (.ifCond .eq 10, 3) := by decide +kernel
theorem dX4_found_19 : decode cX4_found 19 = .ok (.iload_n 3, 1) := by decide +kernel
theorem dX4_found_20 : decode cX4_found 20 = .ok (.invokestatic 93, 3) := by decide +kernel
theorem dX4_found_23 : decode cX4_found 23 = .ok (.ifCond .ne 8, 3) := by decide +kernel
theorem dX4_found_26 : decode cX4_found 26 = .ok (.aload_n 0, 1) := by decide +kernel
theorem dX4_found_27 : decode cX4_found 27 = .ok (.invokevirtual 89, 3) := by decide +kernel
theorem dX4_found_30 : decode cX4_found 30 = .ok (.ireturn, 1) := by decide +kernel
theorem dX4_found_31 : decode cX4_found 31 = .ok (.aload_n 0, 1) := by decide +kernel
theorem dX4_found_32 : decode cX4_found 32 = .ok (.getfield 76, 3) := by decide +kernel
theorem dX4_found_35 : decode cX4_found 35 = .ok (.iconst 4, 1) := by decide +kernel
theorem dX4_found_36 : decode cX4_found 36 = .ok (.if_icmp .ne 8, 3) := by decide +kernel
theorem dX4_found_39 : decode cX4_found 39 = .ok (.aload_n 0, 1) := by decide +kernel
theorem dX4_found_40 : decode cX4_found 40 = .ok (.invokevirtual 97, 3) := by decide +kernel
theorem dX4_found_43 : decode cX4_found 43 = .ok (.ireturn, 1) := by decide +kernel
theorem dX4_found_44 : decode cX4_found 44 = .ok (.aload_n 0, 1) := by decide +kernel
theorem dX4_found_45 : decode cX4_found 45 = .ok (.getfield 28, 3) := by decide +kernel
theorem dX4_found_48 : decode cX4_found 48 = .ok (.aload_n 0, 1) := by decide +kernel
theorem dX4_found_49 : decode cX4_found 49 = .ok (.getfield 76, 3) := by decide +kernel
theorem dX4_found_52 : decode cX4_found 52 = .ok (.iload_n 1, 1) := by decide +kernel
theorem dX4_found_53 : decode cX4_found 53 = .ok (.iastore, 1) := by decide +kernel
theorem dX4_found_54 : decode cX4_found 54 = .ok (.aload_n 0, 1) := by decide +kernel
theorem dX4_found_55 : decode cX4_found 55 = .ok (.getfield 31, 3) := by decide +kernel
theorem dX4_found_58 : decode cX4_found 58 = .ok (.aload_n 0, 1) := by decide +kernel
theorem dX4_found_59 : decode cX4_found 59 = .ok (.getfield 76, 3) := by decide +kernel
theorem dX4_found_62 : decode cX4_found 62 = .ok (.iload_n 2, 1) := by decide +kernel
theorem dX4_found_63 : decode cX4_found 63 = .ok (.iastore, 1) := by decide +kernel
theorem dX4_found_64 : decode cX4_found 64 = .ok (.aload_n 0, 1) := by decide +kernel
theorem dX4_found_65 : decode cX4_found 65 = .ok (.getfield 34, 3) := by decide +kernel
theorem dX4_found_68 : decode cX4_found 68 = .ok (.aload_n 0, 1) := by decide +kernel
theorem dX4_found_69 : decode cX4_found 69 = .ok (.getfield 76, 3) := by decide +kernel
theorem dX4_found_72 : decode cX4_found 72 = .ok (.iload_n 3, 1) := by decide +kernel
theorem dX4_found_73 : decode cX4_found 73 = .ok (.iastore, 1) := by decide +kernel
theorem dX4_found_74 : decode cX4_found 74 = .ok (.aload_n 0, 1) := by decide +kernel
theorem dX4_found_75 : decode cX4_found 75 = .ok (.dup, 1) := by decide +kernel
theorem dX4_found_76 : decode cX4_found 76 = .ok (.getfield 76, 3) := by decide +kernel
theorem dX4_found_79 : decode cX4_found 79 = .ok (.iconst 1, 1) := by decide +kernel
theorem dX4_found_80 : decode cX4_found 80 = .ok (.iadd, 1) := by decide +kernel
theorem dX4_found_81 : decode cX4_found 81 = .ok (.putfield 76, 3) := by decide +kernel
theorem dX4_found_84 : decode cX4_found 84 = .ok (.aload_n 0, 1) := by decide +kernel
theorem dX4_found_85 : decode cX4_found 85 = .ok (.getfield 76, 3) := by decide +kernel
theorem dX4_found_88 : decode cX4_found 88 = .ok (.ireturn, 1) := by decide +kernel
set_option maxRecDepth 20000 in
theorem ggX4_isFrom_X4_driftsIn : GoodIn wsX4_isFrom wsX4_driftsIn := goodIn_r _ [9, 10, 11, 12, 13, 8, 14, 15, 16, 17, 18, 19, 20, 21, 22, 23, 24, 25, 26, 27, 28, 29, 30, 31, 32, 33, 34, 35, 36, 37, 38, 39, 40, 41, 42, 43, 44, 45, 46, 47, 48, 49, 50, 51, 52, 53] (by decide +kernel) (by decide +kernel)
set_option maxRecDepth 20000 in
theorem gX4_isFrom_X4_driftsIn : GoodIn wsX4_isFrom (wsV RX4 178 RX4 yX4_driftsIn wsX4_driftsIn) := goodIn_app (goodIn_of _ (by decide +kernel)) ggX4_isFrom_X4_driftsIn
theorem dX4_isFrom_0 : decode cX4_isFrom 0 = .ok (.iconst 1, 1) := by decide +kernel
theorem dX4_isFrom_1 : decode cX4_isFrom 1 = .ok (.istore_n 2, 1) := by decide +kernel
theorem dX4_isFrom_2 : decode cX4_isFrom 2 = .ok (.iconst 0, 1) := by decide +kernel
theorem dX4_isFrom_3 : decode cX4_isFrom 3 = .ok (.istore_n 3, 1) := by decide +kernel
theorem dX4_isFrom_4 : decode cX4_isFrom 4 = .ok (.iload_n 3, 1) := by decide +kernel
theorem dX4_isFrom_5 : decode cX4_isFrom 5 = .ok (.aload_n 0, 1) := by decide +kernel
theorem dX4_isFrom_6 : decode cX4_isFrom 6 = .ok (.getfield 76, 3) := by decide +kernel
theorem dX4_isFrom_9 : decode cX4_isFrom 9 = .ok (.if_icmp .ge 69, 3) := by decide +kernel
theorem dX4_isFrom_12 : decode cX4_isFrom 12 = .ok (.iload_n 1, 1) := by decide +kernel
theorem dX4_isFrom_13 : decode cX4_isFrom 13 = .ok (.istore 4, 2) := by decide +kernel
theorem dX4_isFrom_15 : decode cX4_isFrom 15 = .ok (.iconst 0, 1) := by decide +kernel
theorem dX4_isFrom_16 : decode cX4_isFrom 16 = .ok (.istore 5, 2) := by decide +kernel
theorem dX4_isFrom_18 : decode cX4_isFrom 18 = .ok (.iload 5, 2) := by decide +kernel
theorem dX4_isFrom_20 : decode cX4_isFrom 20 = .ok (.aload_n 0, 1) := by decide +kernel
theorem dX4_isFrom_21 : decode cX4_isFrom 21 = .ok (.getfield 31, 3) := by decide +kernel
theorem dX4_isFrom_24 : decode cX4_isFrom 24 = .ok (.iload_n 3, 1) := by decide +kernel
theorem dX4_isFrom_25 : decode cX4_isFrom 25 = .ok (.iaload, 1) := by decide +kernel
theorem dX4_isFrom_26 : decode cX4_isFrom 26 = .ok (.if_icmp .ge 25, 3) := by decide +kernel
theorem dX4_isFrom_29 : decode cX4_isFrom 29 = .ok (.aload_n 0, 1) := by decide +kernel
theorem dX4_isFrom_30 : decode cX4_isFrom 30 = .ok (.aload_n 0, 1) := by decide +kernel
theorem dX4_isFrom_31 : decode cX4_isFrom 31 = .ok (.getfield 28, 3) := by decide +kernel
theorem dX4_isFrom_34 : decode cX4_isFrom 34 = .ok (.iload_n 3, 1) := by decide +kernel
theorem dX4_isFrom_35 : decode cX4_isFrom 35 = .ok (.iaload, 1) := by decide +kernel
theorem dX4_isFrom_36 : decode cX4_isFrom 36 = .ok (.iload 4, 2) := by decide +kernel
theorem dX4_isFrom_38 : decode cX4_isFrom 38 = .ok (.iload 5, 2) := by decide +kernel
theorem dX4_isFrom_40 : decode cX4_isFrom 40 = .ok (.invokevirtual 178, 3) := by decide +kernel
theorem dX4_isFrom_43 : decode cX4_isFrom 43 = .ok (.istore 4, 2) := by decide +kernel
theorem dX4_isFrom_45 : decode cX4_isFrom 45 = .ok (.iinc 5 1, 3) := by decide +kernel
theorem dX4_isFrom_48 : decode cX4_isFrom 48 = .ok (.goto (-30), 3) := by decide +kernel
theorem dX4_isFrom_51 : decode cX4_isFrom 51 = .ok (.iload_n 2, 1) := by decide +kernel
theorem dX4_isFrom_52 : decode cX4_isFrom 52 = .ok (.ifCond .eq 18, 3) := by decide +kernel
theorem dX4_isFrom_55 : decode cX4_isFrom 55 = .ok (.iload 4, 2) := by decide +kernel
theorem dX4_isFrom_57 : decode cX4_isFrom 57 = .ok (.aload_n 0, 1) := by decide +kernel
theorem dX4_isFrom_58 : decode cX4_isFrom 58 = .ok (.getfield 34, 3) := by decide +kernel
theorem dX4_isFrom_61 : decode cX4_isFrom 61 = .ok (.iload_n 3, 1) := by decide +kernel
theorem dX4_isFrom_62 : decode cX4_isFrom 62 = .ok (.iaload, 1) := by decide +kernel
theorem dX4_isFrom_63 : decode cX4_isFrom 63 = .ok (.if_icmp .ne 7, 3) := by decide +kernel
theorem dX4_isFrom_66 : decode cX4_isFrom 66 = .ok (.iconst 1, 1) := by decide +kernel
theorem dX4_isFrom_67 : decode cX4_isFrom 67 = .ok (.goto 4, 3) := by decide +kernel
theorem dX4_isFrom_70 : decode cX4_isFrom 70 = .ok (.iconst 0, 1) := by decide +kernel
theorem dX4_isFrom_71 : decode cX4_isFrom 71 = .ok (.istore_n 2, 1) := by decide +kernel
theorem dX4_isFrom_72 : decode cX4_isFrom 72 = .ok (.iinc 3 1, 3) := by decide +kernel
theorem dX4_isFrom_75 : decode cX4_isFrom 75 = .ok (.goto (-71), 3) := by decide +kernel
theorem dX4_isFrom_78 : decode cX4_isFrom 78 = .ok (.iload_n 2, 1) := by decide +kernel
theorem dX4_isFrom_79 : decode cX4_isFrom 79 = .ok (.ireturn, 1) := by decide +kernel
set_option maxRecDepth 20000 in
theorem ggX4_whence_X4_in : GoodIn wsX4_whence wsX4_in := goodIn_r _ [4] (by decide +kernel) (by decide +kernel)
set_option maxRecDepth 20000 in
theorem gX4_whence_X4_in : GoodIn wsX4_whence (va_wsS RX4 85 yX4_in wsX4_in) := goodIn_app (goodIn_of _ (by decide +kernel)) ggX4_whence_X4_in
set_option maxRecDepth 20000 in
theorem ggX4_whence_X4_bad : GoodIn wsX4_whence wsX4_bad := goodIn_r _ [8, 9, 36, 37, 38, 39, 40, 41, 42, 43, 44, 45, 46, 47, 48, 49, 50, 51, 52, 53, 54, 55, 56, 57, 58, 59, 60, 61, 62, 63, 64, 65] (by decide +kernel) (by decide +kernel)
set_option maxRecDepth 20000 in
theorem gX4_whence_X4_bad : GoodIn wsX4_whence (wsV RX4 89 RX4 yX4_bad wsX4_bad) := goodIn_app (goodIn_of _ (by decide +kernel)) ggX4_whence_X4_bad
set_option maxRecDepth 20000 in
theorem ggX4_whence_X4_isFrom : GoodIn wsX4_whence wsX4_isFrom := goodIn_r _ [13, 14, 15, 16, 17, 18, 19, 20, 3, 21, 22, 23, 24, 25, 26, 27, 28, 29, 30, 31, 32, 33, 34, 35, 36, 37, 38, 39, 40, 41, 42, 43, 44, 45, 46, 47, 48, 49, 50, 51, 52, 53, 54, 55, 56, 57, 58, 59, 60, 61, 62, 63, 64, 65] (by decide +kernel) (by decide +kernel)
set_option maxRecDepth 20000 in
theorem gX4_whence_X4_isFrom : GoodIn wsX4_whence (wsV RX4 215 RX4 yX4_isFrom wsX4_isFrom) := goodIn_app (goodIn_of _ (by decide +kernel)) ggX4_whence_X4_isFrom
theorem dX4_whence_0 : decode cX4_whence 0 = .ok (.iload_n 1, 1) := by decide +kernel
theorem dX4_whence_1 : decode cX4_whence 1 = .ok (.iconst 0, 1) := by decide +kernel
theorem dX4_whence_2 : decode cX4_whence 2 = .ok (.iconst 1, 1) := by decide +kernel
theorem dX4_whence_3 : decode cX4_whence 3 = .ok (.invokestatic 85, 3) := by decide +kernel
theorem dX4_whence_6 : decode cX4_whence 6 = .ok (.ifCond .ne 8, 3) := by decide +kernel
theorem dX4_whence_9 : decode cX4_whence 9 = .ok (.aload_n 0, 1) := by decide +kernel
theorem dX4_whence_10 : decode cX4_whence 10 = .ok (.invokevirtual 89, 3) := by decide +kernel
theorem dX4_whence_13 : decode cX4_whence 13 = .ok (.ireturn, 1) := by decide +kernel
theorem dX4_whence_14 : decode cX4_whence 14 = .ok (.iconst 0, 1) := by decide +kernel
theorem dX4_whence_15 : decode cX4_whence 15 = .ok (.istore_n 2, 1) := by decide +kernel
theorem dX4_whence_16 : decode cX4_whence 16 = .ok (.iconst (-1), 1) := by decide +kernel
theorem dX4_whence_17 : decode cX4_whence 17 = .ok (.istore_n 3, 1) := by decide +kernel
theorem dX4_whence_18 : decode cX4_whence 18 = .ok (.iconst 0, 1) := by decide +kernel
theorem dX4_whence_19 : decode cX4_whence 19 = .ok (.istore 4, 2) := by decide +kernel
theorem dX4_whence_21 : decode cX4_whence 21 = .ok (.iload 4, 2) := by decide +kernel
theorem dX4_whence_23 : decode cX4_whence 23 = .ok (.bipush 36, 2) := by decide +kernel
theorem dX4_whence_25 : decode cX4_whence 25 = .ok (.if_icmp .ge 32, 3) := by decide +kernel
theorem dX4_whence_28 : decode cX4_whence 28 = .ok (.aload_n 0, 1) := by decide +kernel
theorem dX4_whence_29 : decode cX4_whence 29 = .ok (.iload 4, 2) := by decide +kernel
theorem dX4_whence_31 : decode cX4_whence 31 = .ok (.invokevirtual 215, 3) := by decide +kernel
theorem dX4_whence_34 : decode cX4_whence 34 = .ok (.ifCond .eq 17, 3) := by decide +kernel
theorem dX4_whence_37 : decode cX4_whence 37 = .ok (.iload_n 2, 1) := by decide +kernel
theorem dX4_whence_38 : decode cX4_whence 38 = .ok (.ifCond .ne 8, 3) := by decide +kernel
theorem dX4_whence_41 : decode cX4_whence 41 = .ok (.iload 4, 2) := by decide +kernel
theorem dX4_whence_43 : decode cX4_whence 43 = .ok (.goto 4, 3) := by decide +kernel
theorem dX4_whence_46 : decode cX4_whence 46 = .ok (.iload_n 3, 1) := by decide +kernel
theorem dX4_whence_47 : decode cX4_whence 47 = .ok (.istore_n 3, 1) := by decide +kernel
theorem dX4_whence_48 : decode cX4_whence 48 = .ok (.iinc 2 1, 3) := by decide +kernel
theorem dX4_whence_51 : decode cX4_whence 51 = .ok (.iinc 4 1, 3) := by decide +kernel
theorem dX4_whence_54 : decode cX4_whence 54 = .ok (.goto (-33), 3) := by decide +kernel
theorem dX4_whence_57 : decode cX4_whence 57 = .ok (.iload_n 1, 1) := by decide +kernel
theorem dX4_whence_58 : decode cX4_whence 58 = .ok (.ifCond .ne 7, 3) := by decide +kernel
theorem dX4_whence_61 : decode cX4_whence 61 = .ok (.iload_n 2, 1) := by decide +kernel
theorem dX4_whence_62 : decode cX4_whence 62 = .ok (.goto 4, 3) := by decide +kernel
theorem dX4_whence_65 : decode cX4_whence 65 = .ok (.iload_n 3, 1) := by decide +kernel
theorem dX4_whence_66 : decode cX4_whence 66 = .ok (.ireturn, 1) := by decide +kernel
set_option maxRecDepth 20000 in
theorem ggX4_note_X4_isFloe : GoodIn wsX4_note wsX4_isFloe := goodIn_r _ [7, 8, 9, 10, 6, 11, 21, 22, 23, 24, 25, 26, 27, 28, 29, 30, 31, 32, 33, 34, 35, 36, 37, 38, 39, 40, 41, 42, 43, 44, 45, 46, 47, 48, 49, 50] (by decide +kernel) (by decide +kernel)
set_option maxRecDepth 20000 in
theorem gX4_note_X4_isFloe : GoodIn wsX4_note (wsV RX4 200 RX4 yX4_isFloe wsX4_isFloe) := goodIn_app (goodIn_of _ (by decide +kernel)) ggX4_note_X4_isFloe
set_option maxRecDepth 20000 in
theorem ggX4_note_X4_in : GoodIn wsX4_note wsX4_in := goodIn_r _ [11] (by decide +kernel) (by decide +kernel)
set_option maxRecDepth 20000 in
theorem gX4_note_X4_in : GoodIn wsX4_note (va_wsS RX4 85 yX4_in wsX4_in) := goodIn_app (goodIn_of _ (by decide +kernel)) ggX4_note_X4_in
set_option maxRecDepth 20000 in
theorem ggX4_note_X4_bad : GoodIn wsX4_note wsX4_bad := goodIn_r _ [15, 16, 21, 22, 23, 24, 25, 26, 27, 28, 29, 30, 31, 32, 33, 34, 35, 36, 37, 38, 39, 40, 41, 42, 43, 44, 45, 46, 47, 48, 49, 50] (by decide +kernel) (by decide +kernel)
set_option maxRecDepth 20000 in
theorem gX4_note_X4_bad : GoodIn wsX4_note (wsV RX4 89 RX4 yX4_bad wsX4_bad) := goodIn_app (goodIn_of _ (by decide +kernel)) ggX4_note_X4_bad
set_option maxRecDepth 20000 in
theorem ggX4_note_X4_full : GoodIn wsX4_note wsX4_full := goodIn_r _ [20, 16, 21, 22, 23, 24, 25, 26, 27, 28, 29, 30, 31, 32, 33, 34, 35, 36, 37, 38, 39, 40, 41, 42, 43, 44, 45, 46, 47, 48, 49, 50] (by decide +kernel) (by decide +kernel)
set_option maxRecDepth 20000 in
theorem gX4_note_X4_full : GoodIn wsX4_note (wsV RX4 97 RX4 yX4_full wsX4_full) := goodIn_app (goodIn_of _ (by decide +kernel)) ggX4_note_X4_full
theorem dX4_note_0 : decode cX4_note 0 = .ok (.aload_n 0, 1) := by decide +kernel
theorem dX4_note_1 : decode cX4_note 1 = .ok (.iload_n 1, 1) := by decide +kernel
theorem dX4_note_2 : decode cX4_note 2 = .ok (.invokevirtual 200, 3) := by decide +kernel
theorem dX4_note_5 : decode cX4_note 5 = .ok (.ifCond .eq 62, 3) := by decide +kernel
theorem dX4_note_8 : decode cX4_note 8 = .ok (.iload_n 2, 1) := by decide +kernel
theorem dX4_note_9 : decode cX4_note 9 = .ok (.iconst 0, 1) := by decide +kernel
theorem dX4_note_10 : decode cX4_note 10 = .ok (.bipush 99, 2) := by decide +kernel
theorem dX4_note_12 : decode cX4_note 12 = .ok (.invokestatic 85, 3) := by decide +kernel
theorem dX4_note_15 : decode cX4_note 15 = .ok (.ifCond .eq 52, 3) := by decide +kernel
theorem dX4_note_18 : decode cX4_note 18 = .ok (.iload_n 3, 1) := by decide +kernel
theorem dX4_note_19 : decode cX4_note 19 = .ok (.iconst 0, 1) := by decide +kernel
theorem dX4_note_20 : decode cX4_note 20 = .ok (.iconst 3, 1) := by decide +kernel
theorem dX4_note_21 : decode cX4_note 21 = .ok (.invokestatic 85, 3) := by decide +kernel
theorem dX4_note_24 : decode cX4_note 24 = .ok (.ifCond .eq 43, 3) := by decide +kernel
theorem dX4_note_27 : decode cX4_note 27 = .ok (.iload 4, 2) := by decide +kernel
theorem dX4_note_29 : decode cX4_note 29 = .ok (.iconst 0, 1) := by decide +kernel
theorem dX4_note_30 : decode cX4_note 30 = .ok (.iconst 3, 1) := by decide +kernel
theorem dX4_note_31 : decode cX4_note 31 = .ok (.invokestatic 85, 3) := by decide +kernel
theorem dX4_note_34 : decode cX4_note 34 = .ok (.ifCond .eq 33, 3) := by decide +kernel
theorem dX4_note_37 : decode cX4_note 37 = .ok (.iload 5, 2) := by decide +kernel
theorem dX4_note_39 : decode cX4_note 39 = .ok (.iconst 0, 1) := by decide +kernel
theorem dX4_note_40 : decode cX4_note 40 = .ok (.iconst 5, 1) := by decide +kernel
theorem dX4_note_41 : decode cX4_note 41 = .ok (.invokestatic 85, 3) := by decide +kernel
theorem dX4_note_44 : decode cX4_note 44 = .ok (.ifCond .eq 23, 3) := by decide +kernel
theorem dX4_note_47 : decode cX4_note 47 = .ok (.iload 6, 2) := by decide +kernel
theorem dX4_note_49 : decode cX4_note 49 = .ok (.iconst 0, 1) := by decide +kernel
theorem dX4_note_50 : decode cX4_note 50 = .ok (.iconst 3, 1) := by decide +kernel
theorem dX4_note_51 : decode cX4_note 51 = .ok (.invokestatic 85, 3) := by decide +kernel
theorem dX4_note_54 : decode cX4_note 54 = .ok (.ifCond .eq 13, 3) := by decide +kernel
theorem dX4_note_57 : decode cX4_note 57 = .ok (.iload 7, 2) := by decide +kernel
theorem dX4_note_59 : decode cX4_note 59 = .ok (.iconst 0, 1) := by decide +kernel
theorem dX4_note_60 : decode cX4_note 60 = .ok (.iconst 3, 1) := by decide +kernel
theorem dX4_note_61 : decode cX4_note 61 = .ok (.invokestatic 85, 3) := by decide +kernel
theorem dX4_note_64 : decode cX4_note 64 = .ok (.ifCond .ne 8, 3) := by decide +kernel
theorem dX4_note_67 : decode cX4_note 67 = .ok (.aload_n 0, 1) := by decide +kernel
theorem dX4_note_68 : decode cX4_note 68 = .ok (.invokevirtual 89, 3) := by decide +kernel
theorem dX4_note_71 : decode cX4_note 71 = .ok (.ireturn, 1) := by decide +kernel
theorem dX4_note_72 : decode cX4_note 72 = .ok (.aload_n 0, 1) := by decide +kernel
theorem dX4_note_73 : decode cX4_note 73 = .ok (.getfield 79, 3) := by decide +kernel
theorem dX4_note_76 : decode cX4_note 76 = .ok (.bipush 6, 2) := by decide +kernel
theorem dX4_note_78 : decode cX4_note 78 = .ok (.if_icmp .ne 8, 3) := by decide +kernel
theorem dX4_note_81 : decode cX4_note 81 = .ok (.aload_n 0, 1) := by decide +kernel
theorem dX4_note_82 : decode cX4_note 82 = .ok (.invokevirtual 97, 3) := by decide +kernel
theorem dX4_note_85 : decode cX4_note 85 = .ok (.ireturn, 1) := by decide +kernel
theorem dX4_note_86 : decode cX4_note 86 = .ok (.bipush 7, 2) := by decide +kernel
theorem dX4_note_88 : decode cX4_note 88 = .ok (.aload_n 0, 1) := by decide +kernel
theorem dX4_note_89 : decode cX4_note 89 = .ok (.getfield 79, 3) := by decide +kernel
theorem dX4_note_92 : decode cX4_note 92 = .ok (.imul, 1) := by decide +kernel
theorem dX4_note_93 : decode cX4_note 93 = .ok (.istore 8, 2) := by decide +kernel
theorem dX4_note_95 : decode cX4_note 95 = .ok (.aload_n 0, 1) := by decide +kernel
theorem dX4_note_96 : decode cX4_note 96 = .ok (.getfield 37, 3) := by decide +kernel
theorem dX4_note_99 : decode cX4_note 99 = .ok (.iload 8, 2) := by decide +kernel
theorem dX4_note_101 : decode cX4_note 101 = .ok (.iload_n 1, 1) := by decide +kernel
theorem dX4_note_102 : decode cX4_note 102 = .ok (.iastore, 1) := by decide +kernel
theorem dX4_note_103 : decode cX4_note 103 = .ok (.aload_n 0, 1) := by decide +kernel
theorem dX4_note_104 : decode cX4_note 104 = .ok (.getfield 37, 3) := by decide +kernel
theorem dX4_note_107 : decode cX4_note 107 = .ok (.iload 8, 2) := by decide +kernel
theorem dX4_note_109 : decode cX4_note 109 = .ok (.iconst 1, 1) := by decide +kernel
theorem dX4_note_110 : decode cX4_note 110 = .ok (.iadd, 1) := by decide +kernel
theorem dX4_note_111 : decode cX4_note 111 = .ok (.iload_n 2, 1) := by decide +kernel
theorem dX4_note_112 : decode cX4_note 112 = .ok (.iastore, 1) := by decide +kernel
theorem dX4_note_113 : decode cX4_note 113 = .ok (.aload_n 0, 1) := by decide +kernel
theorem dX4_note_114 : decode cX4_note 114 = .ok (.getfield 37, 3) := by decide +kernel
theorem dX4_note_117 : decode cX4_note 117 = .ok (.iload 8, 2) := by decide +kernel
theorem dX4_note_119 : decode cX4_note 119 = .ok (.iconst 2, 1) := by decide +kernel
theorem dX4_note_120 : decode cX4_note 120 = .ok (.iadd, 1) := by decide +kernel
theorem dX4_note_121 : decode cX4_note 121 = .ok (.iload_n 3, 1) := by decide +kernel
theorem dX4_note_122 : decode cX4_note 122 = .ok (.iastore, 1) := by decide +kernel
theorem dX4_note_123 : decode cX4_note 123 = .ok (.aload_n 0, 1) := by decide +kernel
theorem dX4_note_124 : decode cX4_note 124 = .ok (.getfield 37, 3) := by decide +kernel
theorem dX4_note_127 : decode cX4_note 127 = .ok (.iload 8, 2) := by decide +kernel
theorem dX4_note_129 : decode cX4_note 129 = .ok (.iconst 3, 1) := by decide +kernel
theorem dX4_note_130 : decode cX4_note 130 = .ok (.iadd, 1) := by decide +kernel
theorem dX4_note_131 : decode cX4_note 131 = .ok (.iload 4, 2) := by decide +kernel
theorem dX4_note_133 : decode cX4_note 133 = .ok (.iastore, 1) := by decide +kernel
theorem dX4_note_134 : decode cX4_note 134 = .ok (.aload_n 0, 1) := by decide +kernel
theorem dX4_note_135 : decode cX4_note 135 = .ok (.getfield 37, 3) := by decide +kernel
theorem dX4_note_138 : decode cX4_note 138 = .ok (.iload 8, 2) := by decide +kernel
theorem dX4_note_140 : decode cX4_note 140 = .ok (.iconst 4, 1) := by decide +kernel
theorem dX4_note_141 : decode cX4_note 141 = .ok (.iadd, 1) := by decide +kernel
theorem dX4_note_142 : decode cX4_note 142 = .ok (.iload 5, 2) := by decide +kernel
theorem dX4_note_144 : decode cX4_note 144 = .ok (.iastore, 1) := by decide +kernel
theorem dX4_note_145 : decode cX4_note 145 = .ok (.aload_n 0, 1) := by decide +kernel
theorem dX4_note_146 : decode cX4_note 146 = .ok (.getfield 37, 3) := by decide +kernel
theorem dX4_note_149 : decode cX4_note 149 = .ok (.iload 8, 2) := by decide +kernel
theorem dX4_note_151 : decode cX4_note 151 = .ok (.iconst 5, 1) := by decide +kernel
theorem dX4_note_152 : decode cX4_note 152 = .ok (.iadd, 1) := by decide +kernel
theorem dX4_note_153 : decode cX4_note 153 = .ok (.iload 6, 2) := by decide +kernel
theorem dX4_note_155 : decode cX4_note 155 = .ok (.iastore, 1) := by decide +kernel
theorem dX4_note_156 : decode cX4_note 156 = .ok (.aload_n 0, 1) := by decide +kernel
theorem dX4_note_157 : decode cX4_note 157 = .ok (.getfield 37, 3) := by decide +kernel
theorem dX4_note_160 : decode cX4_note 160 = .ok (.iload 8, 2) := by decide +kernel
theorem dX4_note_162 : decode cX4_note 162 = .ok (.bipush 6, 2) := by decide +kernel
theorem dX4_note_164 : decode cX4_note 164 = .ok (.iadd, 1) := by decide +kernel
theorem dX4_note_165 : decode cX4_note 165 = .ok (.iload 7, 2) := by decide +kernel
theorem dX4_note_167 : decode cX4_note 167 = .ok (.iastore, 1) := by decide +kernel
theorem dX4_note_168 : decode cX4_note 168 = .ok (.aload_n 0, 1) := by decide +kernel
theorem dX4_note_169 : decode cX4_note 169 = .ok (.dup, 1) := by decide +kernel
theorem dX4_note_170 : decode cX4_note 170 = .ok (.getfield 79, 3) := by decide +kernel
theorem dX4_note_173 : decode cX4_note 173 = .ok (.iconst 1, 1) := by decide +kernel
theorem dX4_note_174 : decode cX4_note 174 = .ok (.iadd, 1) := by decide +kernel
theorem dX4_note_175 : decode cX4_note 175 = .ok (.putfield 79, 3) := by decide +kernel
theorem dX4_note_178 : decode cX4_note 178 = .ok (.aload_n 0, 1) := by decide +kernel
theorem dX4_note_179 : decode cX4_note 179 = .ok (.getfield 79, 3) := by decide +kernel
theorem dX4_note_182 : decode cX4_note 182 = .ok (.ireturn, 1) := by decide +kernel
set_option maxRecDepth 20000 in
theorem ggX4_forget_X4_in : GoodIn wsX4_forget wsX4_in := goodIn_r _ [6] (by decide +kernel) (by decide +kernel)
set_option maxRecDepth 20000 in
theorem gX4_forget_X4_in : GoodIn wsX4_forget (va_wsS RX4 85 yX4_in wsX4_in) := goodIn_app (goodIn_of _ (by decide +kernel)) ggX4_forget_X4_in
set_option maxRecDepth 20000 in
theorem ggX4_forget_X4_bad : GoodIn wsX4_forget wsX4_bad := goodIn_r _ [10, 11, 12, 13, 14, 15, 16, 17, 18, 19, 20, 21, 22, 23, 24, 25, 26, 27, 28, 29, 30, 31, 32, 33, 34, 35, 36, 37, 38, 39, 40, 41] (by decide +kernel) (by decide +kernel)
set_option maxRecDepth 20000 in
theorem gX4_forget_X4_bad : GoodIn wsX4_forget (wsV RX4 89 RX4 yX4_bad wsX4_bad) := goodIn_app (goodIn_of _ (by decide +kernel)) ggX4_forget_X4_bad
theorem dX4_forget_0 : decode cX4_forget 0 = .ok (.iload_n 1, 1) := by decide +kernel
theorem dX4_forget_1 : decode cX4_forget 1 = .ok (.iconst 0, 1) := by decide +kernel
theorem dX4_forget_2 : decode cX4_forget 2 = .ok (.iconst 1, 1) := by decide +kernel
theorem dX4_forget_3 : decode cX4_forget 3 = .ok (.invokestatic 85, 3) := by decide +kernel
theorem dX4_forget_6 : decode cX4_forget 6 = .ok (.ifCond .ne 8, 3) := by decide +kernel
theorem dX4_forget_9 : decode cX4_forget 9 = .ok (.aload_n 0, 1) := by decide +kernel
theorem dX4_forget_10 : decode cX4_forget 10 = .ok (.invokevirtual 89, 3) := by decide +kernel
theorem dX4_forget_13 : decode cX4_forget 13 = .ok (.ireturn, 1) := by decide +kernel
theorem dX4_forget_14 : decode cX4_forget 14 = .ok (.iload_n 1, 1) := by decide +kernel
theorem dX4_forget_15 : decode cX4_forget 15 = .ok (.ifCond .ne 10, 3) := by decide +kernel
theorem dX4_forget_18 : decode cX4_forget 18 = .ok (.aload_n 0, 1) := by decide +kernel
theorem dX4_forget_19 : decode cX4_forget 19 = .ok (.getfield 76, 3) := by decide +kernel
theorem dX4_forget_22 : decode cX4_forget 22 = .ok (.goto 7, 3) := by decide +kernel
theorem dX4_forget_25 : decode cX4_forget 25 = .ok (.aload_n 0, 1) := by decide +kernel
theorem dX4_forget_26 : decode cX4_forget 26 = .ok (.getfield 79, 3) := by decide +kernel
theorem dX4_forget_29 : decode cX4_forget 29 = .ok (.istore_n 2, 1) := by decide +kernel
theorem dX4_forget_30 : decode cX4_forget 30 = .ok (.aload_n 0, 1) := by decide +kernel
theorem dX4_forget_31 : decode cX4_forget 31 = .ok (.iload_n 1, 1) := by decide +kernel
theorem dX4_forget_32 : decode cX4_forget 32 = .ok (.ifCond .ne 7, 3) := by decide +kernel
theorem dX4_forget_35 : decode cX4_forget 35 = .ok (.iconst 0, 1) := by decide +kernel
theorem dX4_forget_36 : decode cX4_forget 36 = .ok (.goto 7, 3) := by decide +kernel
theorem dX4_forget_39 : decode cX4_forget 39 = .ok (.aload_n 0, 1) := by decide +kernel
theorem dX4_forget_40 : decode cX4_forget 40 = .ok (.getfield 76, 3) := by decide +kernel
theorem dX4_forget_43 : decode cX4_forget 43 = .ok (.putfield 76, 3) := by decide +kernel
theorem dX4_forget_46 : decode cX4_forget 46 = .ok (.aload_n 0, 1) := by decide +kernel
theorem dX4_forget_47 : decode cX4_forget 47 = .ok (.iload_n 1, 1) := by decide +kernel
theorem dX4_forget_48 : decode cX4_forget 48 = .ok (.iconst 1, 1) := by decide +kernel
theorem dX4_forget_49 : decode cX4_forget 49 = .ok (.if_icmp .ne 7, 3) := by decide +kernel
theorem dX4_forget_52 : decode cX4_forget 52 = .ok (.iconst 0, 1) := by decide +kernel
theorem dX4_forget_53 : decode cX4_forget 53 = .ok (.goto 7, 3) := by decide +kernel
theorem dX4_forget_56 : decode cX4_forget 56 = .ok (.aload_n 0, 1) := by decide +kernel
theorem dX4_forget_57 : decode cX4_forget 57 = .ok (.getfield 79, 3) := by decide +kernel
theorem dX4_forget_60 : decode cX4_forget 60 = .ok (.putfield 79, 3) := by decide +kernel
theorem dX4_forget_63 : decode cX4_forget 63 = .ok (.iload_n 2, 1) := by decide +kernel
theorem dX4_forget_64 : decode cX4_forget 64 = .ok (.ireturn, 1) := by decide +kernel
set_option maxRecDepth 20000 in
theorem ggX4_isNoted_X4_stepsBy : GoodIn wsX4_isNoted wsX4_stepsBy := goodIn_r _ [5] (by decide +kernel) (by decide +kernel)
set_option maxRecDepth 20000 in
theorem gX4_isNoted_X4_stepsBy : GoodIn wsX4_isNoted (va_wsS RX4 167 yX4_stepsBy wsX4_stepsBy) := goodIn_app (goodIn_of _ (by decide +kernel)) ggX4_isNoted_X4_stepsBy
set_option maxRecDepth 20000 in
theorem ggX4_isNoted_X4_wayBy : GoodIn wsX4_isNoted wsX4_wayBy := goodIn_r _ [8] (by decide +kernel) (by decide +kernel)
set_option maxRecDepth 20000 in
theorem gX4_isNoted_X4_wayBy : GoodIn wsX4_isNoted (va_wsS RX4 164 yX4_wayBy wsX4_wayBy) := goodIn_app (goodIn_of _ (by decide +kernel)) ggX4_isNoted_X4_wayBy
theorem dX4_isNoted_0 : decode cX4_isNoted 0 = .ok (.iload_n 1, 1) := by decide +kernel
theorem dX4_isNoted_1 : decode cX4_isNoted 1 = .ok (.aload_n 0, 1) := by decide +kernel
theorem dX4_isNoted_2 : decode cX4_isNoted 2 = .ok (.getfield 37, 3) := by decide +kernel
theorem dX4_isNoted_5 : decode cX4_isNoted 5 = .ok (.iload_n 2, 1) := by decide +kernel
theorem dX4_isNoted_6 : decode cX4_isNoted 6 = .ok (.iconst 3, 1) := by decide +kernel
theorem dX4_isNoted_7 : decode cX4_isNoted 7 = .ok (.iadd, 1) := by decide +kernel
theorem dX4_isNoted_8 : decode cX4_isNoted 8 = .ok (.iaload, 1) := by decide +kernel
theorem dX4_isNoted_9 : decode cX4_isNoted 9 = .ok (.aload_n 0, 1) := by decide +kernel
theorem dX4_isNoted_10 : decode cX4_isNoted 10 = .ok (.getfield 37, 3) := by decide +kernel
theorem dX4_isNoted_13 : decode cX4_isNoted 13 = .ok (.iload_n 2, 1) := by decide +kernel
theorem dX4_isNoted_14 : decode cX4_isNoted 14 = .ok (.iconst 4, 1) := by decide +kernel
theorem dX4_isNoted_15 : decode cX4_isNoted 15 = .ok (.iadd, 1) := by decide +kernel
theorem dX4_isNoted_16 : decode cX4_isNoted 16 = .ok (.iaload, 1) := by decide +kernel
theorem dX4_isNoted_17 : decode cX4_isNoted 17 = .ok (.invokestatic 167, 3) := by decide +kernel
theorem dX4_isNoted_20 : decode cX4_isNoted 20 = .ok (.istore_n 3, 1) := by decide +kernel
theorem dX4_isNoted_21 : decode cX4_isNoted 21 = .ok (.iload_n 3, 1) := by decide +kernel
theorem dX4_isNoted_22 : decode cX4_isNoted 22 = .ok (.aload_n 0, 1) := by decide +kernel
theorem dX4_isNoted_23 : decode cX4_isNoted 23 = .ok (.getfield 37, 3) := by decide +kernel
theorem dX4_isNoted_26 : decode cX4_isNoted 26 = .ok (.iload_n 2, 1) := by decide +kernel
theorem dX4_isNoted_27 : decode cX4_isNoted 27 = .ok (.bipush 6, 2) := by decide +kernel
theorem dX4_isNoted_29 : decode cX4_isNoted 29 = .ok (.iadd, 1) := by decide +kernel
theorem dX4_isNoted_30 : decode cX4_isNoted 30 = .ok (.iaload, 1) := by decide +kernel
theorem dX4_isNoted_31 : decode cX4_isNoted 31 = .ok (.if_icmp .ne 42, 3) := by decide +kernel
theorem dX4_isNoted_34 : decode cX4_isNoted 34 = .ok (.iload_n 3, 1) := by decide +kernel
theorem dX4_isNoted_35 : decode cX4_isNoted 35 = .ok (.ifCond .eq 34, 3) := by decide +kernel
theorem dX4_isNoted_38 : decode cX4_isNoted 38 = .ok (.iload_n 1, 1) := by decide +kernel
theorem dX4_isNoted_39 : decode cX4_isNoted 39 = .ok (.aload_n 0, 1) := by decide +kernel
theorem dX4_isNoted_40 : decode cX4_isNoted 40 = .ok (.getfield 37, 3) := by decide +kernel
theorem dX4_isNoted_43 : decode cX4_isNoted 43 = .ok (.iload_n 2, 1) := by decide +kernel
theorem dX4_isNoted_44 : decode cX4_isNoted 44 = .ok (.iconst 1, 1) := by decide +kernel
theorem dX4_isNoted_45 : decode cX4_isNoted 45 = .ok (.iadd, 1) := by decide +kernel
theorem dX4_isNoted_46 : decode cX4_isNoted 46 = .ok (.iaload, 1) := by decide +kernel
theorem dX4_isNoted_47 : decode cX4_isNoted 47 = .ok (.aload_n 0, 1) := by decide +kernel
theorem dX4_isNoted_48 : decode cX4_isNoted 48 = .ok (.getfield 37, 3) := by decide +kernel
theorem dX4_isNoted_51 : decode cX4_isNoted 51 = .ok (.iload_n 2, 1) := by decide +kernel
theorem dX4_isNoted_52 : decode cX4_isNoted 52 = .ok (.iconst 2, 1) := by decide +kernel
theorem dX4_isNoted_53 : decode cX4_isNoted 53 = .ok (.iadd, 1) := by decide +kernel
theorem dX4_isNoted_54 : decode cX4_isNoted 54 = .ok (.iaload, 1) := by decide +kernel
theorem dX4_isNoted_55 : decode cX4_isNoted 55 = .ok (.invokestatic 164, 3) := by decide +kernel
theorem dX4_isNoted_58 : decode cX4_isNoted 58 = .ok (.aload_n 0, 1) := by decide +kernel
theorem dX4_isNoted_59 : decode cX4_isNoted 59 = .ok (.getfield 37, 3) := by decide +kernel
theorem dX4_isNoted_62 : decode cX4_isNoted 62 = .ok (.iload_n 2, 1) := by decide +kernel
theorem dX4_isNoted_63 : decode cX4_isNoted 63 = .ok (.iconst 5, 1) := by decide +kernel
theorem dX4_isNoted_64 : decode cX4_isNoted 64 = .ok (.iadd, 1) := by decide +kernel
theorem dX4_isNoted_65 : decode cX4_isNoted 65 = .ok (.iaload, 1) := by decide +kernel
theorem dX4_isNoted_66 : decode cX4_isNoted 66 = .ok (.if_icmp .ne 7, 3) := by decide +kernel
theorem dX4_isNoted_69 : decode cX4_isNoted 69 = .ok (.iconst 1, 1) := by decide +kernel
theorem dX4_isNoted_70 : decode cX4_isNoted 70 = .ok (.goto 4, 3) := by decide +kernel
theorem dX4_isNoted_73 : decode cX4_isNoted 73 = .ok (.iconst 0, 1) := by decide +kernel
theorem dX4_isNoted_74 : decode cX4_isNoted 74 = .ok (.ireturn, 1) := by decide +kernel
set_option maxRecDepth 20000 in
theorem ggX4_kindsOf_X4_isNoted : GoodIn wsX4_kindsOf wsX4_isNoted := goodIn_r _ [7, 2, 8, 9, 6, 10, 11, 12, 13, 14, 15, 16, 17, 18, 19, 20, 21, 22, 23, 24, 25, 26, 27, 28, 29, 30, 31, 32, 33, 34, 35, 36, 37, 38, 39, 40, 41, 42, 43] (by decide +kernel) (by decide +kernel)
set_option maxRecDepth 20000 in
theorem gX4_kindsOf_X4_isNoted : GoodIn wsX4_kindsOf (wsV RX4 218 RX4 yX4_isNoted wsX4_isNoted) := goodIn_app (goodIn_of _ (by decide +kernel)) ggX4_kindsOf_X4_isNoted
theorem dX4_kindsOf_0 : decode cX4_kindsOf 0 = .ok (.iconst 0, 1) := by decide +kernel
theorem dX4_kindsOf_1 : decode cX4_kindsOf 1 = .ok (.istore_n 2, 1) := by decide +kernel
theorem dX4_kindsOf_2 : decode cX4_kindsOf 2 = .ok (.iconst 0, 1) := by decide +kernel
theorem dX4_kindsOf_3 : decode cX4_kindsOf 3 = .ok (.istore_n 3, 1) := by decide +kernel
theorem dX4_kindsOf_4 : decode cX4_kindsOf 4 = .ok (.iload_n 3, 1) := by decide +kernel
theorem dX4_kindsOf_5 : decode cX4_kindsOf 5 = .ok (.iconst 5, 1) := by decide +kernel
theorem dX4_kindsOf_6 : decode cX4_kindsOf 6 = .ok (.if_icmp .gt 84, 3) := by decide +kernel
theorem dX4_kindsOf_9 : decode cX4_kindsOf 9 = .ok (.iconst 1, 1) := by decide +kernel
theorem dX4_kindsOf_10 : decode cX4_kindsOf 10 = .ok (.istore 4, 2) := by decide +kernel
theorem dX4_kindsOf_12 : decode cX4_kindsOf 12 = .ok (.iconst 0, 1) := by decide +kernel
theorem dX4_kindsOf_13 : decode cX4_kindsOf 13 = .ok (.istore 5, 2) := by decide +kernel
theorem dX4_kindsOf_15 : decode cX4_kindsOf 15 = .ok (.iload 5, 2) := by decide +kernel
theorem dX4_kindsOf_17 : decode cX4_kindsOf 17 = .ok (.aload_n 0, 1) := by decide +kernel
theorem dX4_kindsOf_18 : decode cX4_kindsOf 18 = .ok (.getfield 79, 3) := by decide +kernel
theorem dX4_kindsOf_21 : decode cX4_kindsOf 21 = .ok (.if_icmp .ge 48, 3) := by decide +kernel
theorem dX4_kindsOf_24 : decode cX4_kindsOf 24 = .ok (.iload 4, 2) := by decide +kernel
theorem dX4_kindsOf_26 : decode cX4_kindsOf 26 = .ok (.ifCond .eq 34, 3) := by decide +kernel
theorem dX4_kindsOf_29 : decode cX4_kindsOf 29 = .ok (.aload_n 0, 1) := by decide +kernel
theorem dX4_kindsOf_30 : decode cX4_kindsOf 30 = .ok (.getfield 37, 3) := by decide +kernel
theorem dX4_kindsOf_33 : decode cX4_kindsOf 33 = .ok (.bipush 7, 2) := by decide +kernel
theorem dX4_kindsOf_35 : decode cX4_kindsOf 35 = .ok (.iload 5, 2) := by decide +kernel
theorem dX4_kindsOf_37 : decode cX4_kindsOf 37 = .ok (.imul, 1) := by decide +kernel
theorem dX4_kindsOf_38 : decode cX4_kindsOf 38 = .ok (.iaload, 1) := by decide +kernel
theorem dX4_kindsOf_39 : decode cX4_kindsOf 39 = .ok (.iload_n 1, 1) := by decide +kernel
theorem dX4_kindsOf_40 : decode cX4_kindsOf 40 = .ok (.if_icmp .ne 16, 3) := by decide +kernel
theorem dX4_kindsOf_43 : decode cX4_kindsOf 43 = .ok (.aload_n 0, 1) := by decide +kernel
theorem dX4_kindsOf_44 : decode cX4_kindsOf 44 = .ok (.iload_n 3, 1) := by decide +kernel
theorem dX4_kindsOf_45 : decode cX4_kindsOf 45 = .ok (.bipush 7, 2) := by decide +kernel
theorem dX4_kindsOf_47 : decode cX4_kindsOf 47 = .ok (.iload 5, 2) := by decide +kernel
theorem dX4_kindsOf_49 : decode cX4_kindsOf 49 = .ok (.imul, 1) := by decide +kernel
theorem dX4_kindsOf_50 : decode cX4_kindsOf 50 = .ok (.invokevirtual 218, 3) := by decide +kernel
theorem dX4_kindsOf_53 : decode cX4_kindsOf 53 = .ok (.ifCond .eq 7, 3) := by decide +kernel
theorem dX4_kindsOf_56 : decode cX4_kindsOf 56 = .ok (.iconst 1, 1) := by decide +kernel
theorem dX4_kindsOf_57 : decode cX4_kindsOf 57 = .ok (.goto 4, 3) := by decide +kernel
theorem dX4_kindsOf_60 : decode cX4_kindsOf 60 = .ok (.iconst 0, 1) := by decide +kernel
theorem dX4_kindsOf_61 : decode cX4_kindsOf 61 = .ok (.istore 4, 2) := by decide +kernel
theorem dX4_kindsOf_63 : decode cX4_kindsOf 63 = .ok (.iinc 5 1, 3) := by decide +kernel
theorem dX4_kindsOf_66 : decode cX4_kindsOf 66 = .ok (.goto (-51), 3) := by decide +kernel
theorem dX4_kindsOf_69 : decode cX4_kindsOf 69 = .ok (.iload_n 2, 1) := by decide +kernel
theorem dX4_kindsOf_70 : decode cX4_kindsOf 70 = .ok (.iload 4, 2) := by decide +kernel
theorem dX4_kindsOf_72 : decode cX4_kindsOf 72 = .ok (.ifCond .eq 9, 3) := by decide +kernel
theorem dX4_kindsOf_75 : decode cX4_kindsOf 75 = .ok (.iconst 1, 1) := by decide +kernel
theorem dX4_kindsOf_76 : decode cX4_kindsOf 76 = .ok (.iload_n 3, 1) := by decide +kernel
theorem dX4_kindsOf_77 : decode cX4_kindsOf 77 = .ok (.ishl, 1) := by decide +kernel
theorem dX4_kindsOf_78 : decode cX4_kindsOf 78 = .ok (.goto 4, 3) := by decide +kernel
theorem dX4_kindsOf_81 : decode cX4_kindsOf 81 = .ok (.iconst 0, 1) := by decide +kernel
theorem dX4_kindsOf_82 : decode cX4_kindsOf 82 = .ok (.ior, 1) := by decide +kernel
theorem dX4_kindsOf_83 : decode cX4_kindsOf 83 = .ok (.istore_n 2, 1) := by decide +kernel
theorem dX4_kindsOf_84 : decode cX4_kindsOf 84 = .ok (.iinc 3 1, 3) := by decide +kernel
theorem dX4_kindsOf_87 : decode cX4_kindsOf 87 = .ok (.goto (-83), 3) := by decide +kernel
theorem dX4_kindsOf_90 : decode cX4_kindsOf 90 = .ok (.iload_n 2, 1) := by decide +kernel
theorem dX4_kindsOf_91 : decode cX4_kindsOf 91 = .ok (.ireturn, 1) := by decide +kernel
set_option maxRecDepth 20000 in
theorem ggX4_is_X4_isFloe : GoodIn wsX4_is wsX4_isFloe := goodIn_r _ [5, 6, 7, 8, 4, 9, 31, 32, 33, 34, 35, 36, 37, 38, 39, 40, 41, 42, 43, 44, 45, 46, 47, 48, 49, 50, 51, 52, 53, 54, 55, 56, 57, 58, 59, 60] (by decide +kernel) (by decide +kernel)
set_option maxRecDepth 20000 in
theorem gX4_is_X4_isFloe : GoodIn wsX4_is (wsV RX4 200 RX4 yX4_isFloe wsX4_isFloe) := goodIn_app (goodIn_of _ (by decide +kernel)) ggX4_is_X4_isFloe
set_option maxRecDepth 20000 in
theorem ggX4_is_X4_kindsOf : GoodIn wsX4_is wsX4_kindsOf := goodIn_r _ [13, 14, 15, 16, 17, 18, 4, 19, 20, 21, 22, 23, 24, 25, 31, 32, 33, 34, 35, 36, 37, 38, 39, 40, 41, 42, 43, 44, 45, 46, 47, 48, 49, 50, 51, 52, 53, 54, 55, 56, 57, 58, 59, 60] (by decide +kernel) (by decide +kernel)
set_option maxRecDepth 20000 in
theorem gX4_is_X4_kindsOf : GoodIn wsX4_is (wsV RX4 221 RX4 yX4_kindsOf wsX4_kindsOf) := goodIn_app (goodIn_of _ (by decide +kernel)) ggX4_is_X4_kindsOf
set_option maxRecDepth 20000 in
theorem ggX4_is_X4_bad : GoodIn wsX4_is wsX4_bad := goodIn_r _ [29, 30, 31, 32, 33, 34, 35, 36, 37, 38, 39, 40, 41, 42, 43, 44, 45, 46, 47, 48, 49, 50, 51, 52, 53, 54, 55, 56, 57, 58, 59, 60] (by decide +kernel) (by decide +kernel)
set_option maxRecDepth 20000 in
theorem gX4_is_X4_bad : GoodIn wsX4_is (wsV RX4 89 RX4 yX4_bad wsX4_bad) := goodIn_app (goodIn_of _ (by decide +kernel)) ggX4_is_X4_bad
theorem dX4_is_0 : decode cX4_is 0 = .ok (.aload_n 0, 1) := by decide +kernel
theorem dX4_is_1 : decode cX4_is 1 = .ok (.iload_n 1, 1) := by decide +kernel
theorem dX4_is_2 : decode cX4_is 2 = .ok (.invokevirtual 200, 3) := by decide +kernel
theorem dX4_is_5 : decode cX4_is 5 = .ok (.ifCond .eq 11, 3) := by decide +kernel
theorem dX4_is_8 : decode cX4_is 8 = .ok (.aload_n 0, 1) := by decide +kernel
theorem dX4_is_9 : decode cX4_is 9 = .ok (.iload_n 1, 1) := by decide +kernel
theorem dX4_is_10 : decode cX4_is 10 = .ok (.invokevirtual 221, 3) := by decide +kernel
theorem dX4_is_13 : decode cX4_is 13 = .ok (.goto 7, 3) := by decide +kernel
theorem dX4_is_16 : decode cX4_is 16 = .ok (.aload_n 0, 1) := by decide +kernel
theorem dX4_is_17 : decode cX4_is 17 = .ok (.invokevirtual 89, 3) := by decide +kernel
theorem dX4_is_20 : decode cX4_is 20 = .ok (.ireturn, 1) := by decide +kernel
set_option maxRecDepth 20000 in
theorem ggX4_areAlike_X4_stepsBy : GoodIn wsX4_areAlike wsX4_stepsBy := goodIn_r _ [6] (by decide +kernel) (by decide +kernel)
set_option maxRecDepth 20000 in
theorem gX4_areAlike_X4_stepsBy : GoodIn wsX4_areAlike (va_wsS RX4 167 yX4_stepsBy wsX4_stepsBy) := goodIn_app (goodIn_of _ (by decide +kernel)) ggX4_areAlike_X4_stepsBy
set_option maxRecDepth 20000 in
theorem ggX4_areAlike_X4_wayBy : GoodIn wsX4_areAlike wsX4_wayBy := goodIn_r _ [9] (by decide +kernel) (by decide +kernel)
set_option maxRecDepth 20000 in
theorem gX4_areAlike_X4_wayBy : GoodIn wsX4_areAlike (va_wsS RX4 164 yX4_wayBy wsX4_wayBy) := goodIn_app (goodIn_of _ (by decide +kernel)) ggX4_areAlike_X4_wayBy
theorem dX4_areAlike_0 : decode cX4_areAlike 0 = .ok (.iload_n 1, 1) := by decide +kernel
theorem dX4_areAlike_1 : decode cX4_areAlike 1 = .ok (.aload_n 0, 1) := by decide +kernel
theorem dX4_areAlike_2 : decode cX4_areAlike 2 = .ok (.getfield 16, 3) := by decide +kernel
theorem dX4_areAlike_5 : decode cX4_areAlike 5 = .ok (.iload_n 3, 1) := by decide +kernel
theorem dX4_areAlike_6 : decode cX4_areAlike 6 = .ok (.bipush 12, 2) := by decide +kernel
theorem dX4_areAlike_8 : decode cX4_areAlike 8 = .ok (.irem, 1) := by decide +kernel
theorem dX4_areAlike_9 : decode cX4_areAlike 9 = .ok (.iaload, 1) := by decide +kernel
theorem dX4_areAlike_10 : decode cX4_areAlike 10 = .ok (.iload 4, 2) := by decide +kernel
theorem dX4_areAlike_12 : decode cX4_areAlike 12 = .ok (.invokestatic 167, 3) := by decide +kernel
theorem dX4_areAlike_15 : decode cX4_areAlike 15 = .ok (.istore 5, 2) := by decide +kernel
theorem dX4_areAlike_17 : decode cX4_areAlike 17 = .ok (.iload_n 2, 1) := by decide +kernel
theorem dX4_areAlike_18 : decode cX4_areAlike 18 = .ok (.aload_n 0, 1) := by decide +kernel
theorem dX4_areAlike_19 : decode cX4_areAlike 19 = .ok (.getfield 16, 3) := by decide +kernel
theorem dX4_areAlike_22 : decode cX4_areAlike 22 = .ok (.iload_n 3, 1) := by decide +kernel
theorem dX4_areAlike_23 : decode cX4_areAlike 23 = .ok (.bipush 12, 2) := by decide +kernel
theorem dX4_areAlike_25 : decode cX4_areAlike 25 = .ok (.irem, 1) := by decide +kernel
theorem dX4_areAlike_26 : decode cX4_areAlike 26 = .ok (.iaload, 1) := by decide +kernel
theorem dX4_areAlike_27 : decode cX4_areAlike 27 = .ok (.iload 4, 2) := by decide +kernel
theorem dX4_areAlike_29 : decode cX4_areAlike 29 = .ok (.invokestatic 167, 3) := by decide +kernel
theorem dX4_areAlike_32 : decode cX4_areAlike 32 = .ok (.istore 6, 2) := by decide +kernel
theorem dX4_areAlike_34 : decode cX4_areAlike 34 = .ok (.iload 5, 2) := by decide +kernel
theorem dX4_areAlike_36 : decode cX4_areAlike 36 = .ok (.iload 6, 2) := by decide +kernel
theorem dX4_areAlike_38 : decode cX4_areAlike 38 = .ok (.if_icmp .ne 43, 3) := by decide +kernel
theorem dX4_areAlike_41 : decode cX4_areAlike 41 = .ok (.iload 5, 2) := by decide +kernel
theorem dX4_areAlike_43 : decode cX4_areAlike 43 = .ok (.ifCond .eq 34, 3) := by decide +kernel
theorem dX4_areAlike_46 : decode cX4_areAlike 46 = .ok (.iload_n 1, 1) := by decide +kernel
theorem dX4_areAlike_47 : decode cX4_areAlike 47 = .ok (.iload_n 3, 1) := by decide +kernel
theorem dX4_areAlike_48 : decode cX4_areAlike 48 = .ok (.aload_n 0, 1) := by decide +kernel
theorem dX4_areAlike_49 : decode cX4_areAlike 49 = .ok (.getfield 13, 3) := by decide +kernel
theorem dX4_areAlike_52 : decode cX4_areAlike 52 = .ok (.iload_n 3, 1) := by decide +kernel
theorem dX4_areAlike_53 : decode cX4_areAlike 53 = .ok (.bipush 12, 2) := by decide +kernel
theorem dX4_areAlike_55 : decode cX4_areAlike 55 = .ok (.irem, 1) := by decide +kernel
theorem dX4_areAlike_56 : decode cX4_areAlike 56 = .ok (.iaload, 1) := by decide +kernel
theorem dX4_areAlike_57 : decode cX4_areAlike 57 = .ok (.invokestatic 164, 3) := by decide +kernel
theorem dX4_areAlike_60 : decode cX4_areAlike 60 = .ok (.iload_n 2, 1) := by decide +kernel
theorem dX4_areAlike_61 : decode cX4_areAlike 61 = .ok (.iload_n 3, 1) := by decide +kernel
theorem dX4_areAlike_62 : decode cX4_areAlike 62 = .ok (.aload_n 0, 1) := by decide +kernel
theorem dX4_areAlike_63 : decode cX4_areAlike 63 = .ok (.getfield 13, 3) := by decide +kernel
theorem dX4_areAlike_66 : decode cX4_areAlike 66 = .ok (.iload_n 3, 1) := by decide +kernel
theorem dX4_areAlike_67 : decode cX4_areAlike 67 = .ok (.bipush 12, 2) := by decide +kernel
theorem dX4_areAlike_69 : decode cX4_areAlike 69 = .ok (.irem, 1) := by decide +kernel
theorem dX4_areAlike_70 : decode cX4_areAlike 70 = .ok (.iaload, 1) := by decide +kernel
theorem dX4_areAlike_71 : decode cX4_areAlike 71 = .ok (.invokestatic 164, 3) := by decide +kernel
theorem dX4_areAlike_74 : decode cX4_areAlike 74 = .ok (.if_icmp .ne 7, 3) := by decide +kernel
theorem dX4_areAlike_77 : decode cX4_areAlike 77 = .ok (.iconst 1, 1) := by decide +kernel
theorem dX4_areAlike_78 : decode cX4_areAlike 78 = .ok (.goto 4, 3) := by decide +kernel
theorem dX4_areAlike_81 : decode cX4_areAlike 81 = .ok (.iconst 0, 1) := by decide +kernel
theorem dX4_areAlike_82 : decode cX4_areAlike 82 = .ok (.ireturn, 1) := by decide +kernel
set_option maxRecDepth 20000 in
theorem ggX4_alike_X4_has : GoodIn wsX4_alike wsX4_has := goodIn_r _ [4] (by decide +kernel) (by decide +kernel)
set_option maxRecDepth 20000 in
theorem gX4_alike_X4_has : GoodIn wsX4_alike (va_wsS RX4 224 yX4_has wsX4_has) := goodIn_app (goodIn_of _ (by decide +kernel)) ggX4_alike_X4_has
set_option maxRecDepth 20000 in
theorem ggX4_alike_X4_areAlike : GoodIn wsX4_alike wsX4_areAlike := goodIn_r _ [8, 9, 10, 11, 12, 3, 13, 14, 15, 16, 17, 18, 19, 20, 21, 22, 23, 24, 25, 26, 27, 28, 29, 30, 31, 32, 33, 34, 35, 36, 37, 38, 39, 40, 41, 42, 43, 44, 45, 46] (by decide +kernel) (by decide +kernel)
set_option maxRecDepth 20000 in
theorem gX4_alike_X4_areAlike : GoodIn wsX4_alike (wsV RX4 227 RX4 yX4_areAlike wsX4_areAlike) := goodIn_app (goodIn_of _ (by decide +kernel)) ggX4_alike_X4_areAlike
theorem dX4_alike_0 : decode cX4_alike 0 = .ok (.iconst 0, 1) := by decide +kernel
theorem dX4_alike_1 : decode cX4_alike 1 = .ok (.istore 4, 2) := by decide +kernel
theorem dX4_alike_3 : decode cX4_alike 3 = .ok (.iconst 0, 1) := by decide +kernel
theorem dX4_alike_4 : decode cX4_alike 4 = .ok (.istore 5, 2) := by decide +kernel
theorem dX4_alike_6 : decode cX4_alike 6 = .ok (.iload 5, 2) := by decide +kernel
theorem dX4_alike_8 : decode cX4_alike 8 = .ok (.iconst 5, 1) := by decide +kernel
theorem dX4_alike_9 : decode cX4_alike 9 = .ok (.if_icmp .gt 84, 3) := by decide +kernel
theorem dX4_alike_12 : decode cX4_alike 12 = .ok (.iconst 0, 1) := by decide +kernel
theorem dX4_alike_13 : decode cX4_alike 13 = .ok (.istore 6, 2) := by decide +kernel
theorem dX4_alike_15 : decode cX4_alike 15 = .ok (.iconst 0, 1) := by decide +kernel
theorem dX4_alike_16 : decode cX4_alike 16 = .ok (.istore 7, 2) := by decide +kernel
theorem dX4_alike_18 : decode cX4_alike 18 = .ok (.iload 7, 2) := by decide +kernel
theorem dX4_alike_20 : decode cX4_alike 20 = .ok (.iconst 5, 1) := by decide +kernel
theorem dX4_alike_21 : decode cX4_alike 21 = .ok (.if_icmp .gt 50, 3) := by decide +kernel
theorem dX4_alike_24 : decode cX4_alike 24 = .ok (.iload 6, 2) := by decide +kernel
theorem dX4_alike_26 : decode cX4_alike 26 = .ok (.iload_n 1, 1) := by decide +kernel
theorem dX4_alike_27 : decode cX4_alike 27 = .ok (.iload 5, 2) := by decide +kernel
theorem dX4_alike_29 : decode cX4_alike 29 = .ok (.invokestatic 224, 3) := by decide +kernel
theorem dX4_alike_32 : decode cX4_alike 32 = .ok (.ifCond .eq 29, 3) := by decide +kernel
theorem dX4_alike_35 : decode cX4_alike 35 = .ok (.iload_n 1, 1) := by decide +kernel
theorem dX4_alike_36 : decode cX4_alike 36 = .ok (.iload 7, 2) := by decide +kernel
theorem dX4_alike_38 : decode cX4_alike 38 = .ok (.invokestatic 224, 3) := by decide +kernel
theorem dX4_alike_41 : decode cX4_alike 41 = .ok (.ifCond .eq 20, 3) := by decide +kernel
theorem dX4_alike_44 : decode cX4_alike 44 = .ok (.aload_n 0, 1) := by decide +kernel
theorem dX4_alike_45 : decode cX4_alike 45 = .ok (.iload 5, 2) := by decide +kernel
theorem dX4_alike_47 : decode cX4_alike 47 = .ok (.iload 7, 2) := by decide +kernel
theorem dX4_alike_49 : decode cX4_alike 49 = .ok (.iload_n 2, 1) := by decide +kernel
theorem dX4_alike_50 : decode cX4_alike 50 = .ok (.iload_n 3, 1) := by decide +kernel
theorem dX4_alike_51 : decode cX4_alike 51 = .ok (.invokevirtual 227, 3) := by decide +kernel
theorem dX4_alike_54 : decode cX4_alike 54 = .ok (.ifCond .eq 7, 3) := by decide +kernel
theorem dX4_alike_57 : decode cX4_alike 57 = .ok (.iconst 1, 1) := by decide +kernel
theorem dX4_alike_58 : decode cX4_alike 58 = .ok (.goto 4, 3) := by decide +kernel
theorem dX4_alike_61 : decode cX4_alike 61 = .ok (.iconst 0, 1) := by decide +kernel
theorem dX4_alike_62 : decode cX4_alike 62 = .ok (.iadd, 1) := by decide +kernel
theorem dX4_alike_63 : decode cX4_alike 63 = .ok (.istore 6, 2) := by decide +kernel
theorem dX4_alike_65 : decode cX4_alike 65 = .ok (.iinc 7 1, 3) := by decide +kernel
theorem dX4_alike_68 : decode cX4_alike 68 = .ok (.goto (-50), 3) := by decide +kernel
theorem dX4_alike_71 : decode cX4_alike 71 = .ok (.iload 6, 2) := by decide +kernel
theorem dX4_alike_73 : decode cX4_alike 73 = .ok (.iload 4, 2) := by decide +kernel
theorem dX4_alike_75 : decode cX4_alike 75 = .ok (.if_icmp .le 8, 3) := by decide +kernel
theorem dX4_alike_78 : decode cX4_alike 78 = .ok (.iload 6, 2) := by decide +kernel
theorem dX4_alike_80 : decode cX4_alike 80 = .ok (.goto 5, 3) := by decide +kernel
theorem dX4_alike_83 : decode cX4_alike 83 = .ok (.iload 4, 2) := by decide +kernel
theorem dX4_alike_85 : decode cX4_alike 85 = .ok (.istore 4, 2) := by decide +kernel
theorem dX4_alike_87 : decode cX4_alike 87 = .ok (.iinc 5 1, 3) := by decide +kernel
theorem dX4_alike_90 : decode cX4_alike 90 = .ok (.goto (-84), 3) := by decide +kernel
theorem dX4_alike_93 : decode cX4_alike 93 = .ok (.iload 4, 2) := by decide +kernel
theorem dX4_alike_95 : decode cX4_alike 95 = .ok (.ireturn, 1) := by decide +kernel
set_option maxRecDepth 20000 in
theorem ggX4_waits_X4_isFloe : GoodIn wsX4_waits wsX4_isFloe := goodIn_r _ [8, 9, 10, 11, 7, 12, 50, 51, 52, 53, 54, 55, 56, 57, 58, 59, 60, 61, 62, 63, 64, 65, 66, 67, 68, 69, 70, 71, 72, 73, 74, 75, 76, 77, 78, 79] (by decide +kernel) (by decide +kernel)
set_option maxRecDepth 20000 in
theorem gX4_waits_X4_isFloe : GoodIn wsX4_waits (wsV RX4 200 RX4 yX4_isFloe wsX4_isFloe) := goodIn_app (goodIn_of _ (by decide +kernel)) ggX4_waits_X4_isFloe
set_option maxRecDepth 20000 in
theorem ggX4_waits_X4_bad : GoodIn wsX4_waits wsX4_bad := goodIn_r _ [16, 17, 50, 51, 52, 53, 54, 55, 56, 57, 58, 59, 60, 61, 62, 63, 64, 65, 66, 67, 68, 69, 70, 71, 72, 73, 74, 75, 76, 77, 78, 79] (by decide +kernel) (by decide +kernel)
set_option maxRecDepth 20000 in
theorem gX4_waits_X4_bad : GoodIn wsX4_waits (wsV RX4 89 RX4 yX4_bad wsX4_bad) := goodIn_app (goodIn_of _ (by decide +kernel)) ggX4_waits_X4_bad
set_option maxRecDepth 20000 in
theorem ggX4_waits_X4_kindsOf : GoodIn wsX4_waits wsX4_kindsOf := goodIn_r _ [21, 22, 23, 24, 25, 26, 7, 27, 28, 29, 30, 31, 32, 33, 50, 51, 52, 53, 54, 55, 56, 57, 58, 59, 60, 61, 62, 63, 64, 65, 66, 67, 68, 69, 70, 71, 72, 73, 74, 75, 76, 77, 78, 79] (by decide +kernel) (by decide +kernel)
set_option maxRecDepth 20000 in
theorem gX4_waits_X4_kindsOf : GoodIn wsX4_waits (wsV RX4 221 RX4 yX4_kindsOf wsX4_kindsOf) := goodIn_app (goodIn_of _ (by decide +kernel)) ggX4_waits_X4_kindsOf
set_option maxRecDepth 20000 in
theorem ggX4_waits_X4_alike : GoodIn wsX4_waits wsX4_alike := goodIn_r _ [37, 38, 39, 7, 40, 41, 42, 43, 44, 45, 46, 28, 29, 30, 31, 32, 33, 50, 51, 52, 53, 54, 55, 56, 57, 58, 59, 60, 61, 62, 63, 64, 65, 66, 67, 68, 69, 70, 71, 72, 73, 74, 75, 76, 77, 78, 79] (by decide +kernel) (by decide +kernel)
set_option maxRecDepth 20000 in
theorem gX4_waits_X4_alike : GoodIn wsX4_waits (wsV RX4 232 RX4 yX4_alike wsX4_alike) := goodIn_app (goodIn_of _ (by decide +kernel)) ggX4_waits_X4_alike
set_option maxRecDepth 20000 in
theorem ggX4_waits_X4_lesser : GoodIn wsX4_waits wsX4_lesser := goodIn_r _ [49] (by decide +kernel) (by decide +kernel)
set_option maxRecDepth 20000 in
theorem gX4_waits_X4_lesser : GoodIn wsX4_waits (va_wsS RX4 203 yX4_lesser wsX4_lesser) := goodIn_app (goodIn_of _ (by decide +kernel)) ggX4_waits_X4_lesser
theorem dX4_waits_0 : decode cX4_waits 0 = .ok (.aload_n 0, 1) := by decide +kernel
theorem dX4_waits_1 : decode cX4_waits 1 = .ok (.iload_n 1, 1) := by decide +kernel
theorem dX4_waits_2 : decode cX4_waits 2 = .ok (.invokevirtual 200, 3) := by decide +kernel
theorem dX4_waits_5 : decode cX4_waits 5 = .ok (.ifCond .ne 8, 3) := by decide +kernel
theorem dX4_waits_8 : decode cX4_waits 8 = .ok (.aload_n 0, 1) := by decide +kernel
theorem dX4_waits_9 : decode cX4_waits 9 = .ok (.invokevirtual 89, 3) := by decide +kernel
theorem dX4_waits_12 : decode cX4_waits 12 = .ok (.ireturn, 1) := by decide +kernel
theorem dX4_waits_13 : decode cX4_waits 13 = .ok (.aload_n 0, 1) := by decide +kernel
theorem dX4_waits_14 : decode cX4_waits 14 = .ok (.iload_n 1, 1) := by decide +kernel
theorem dX4_waits_15 : decode cX4_waits 15 = .ok (.invokevirtual 221, 3) := by decide +kernel
theorem dX4_waits_18 : decode cX4_waits 18 = .ok (.istore_n 2, 1) := by decide +kernel
theorem dX4_waits_19 : decode cX4_waits 19 = .ok (.iconst (-1), 1) := by decide +kernel
theorem dX4_waits_20 : decode cX4_waits 20 = .ok (.istore_n 3, 1) := by decide +kernel
theorem dX4_waits_21 : decode cX4_waits 21 = .ok (.ldc 231, 2) := by decide +kernel
theorem dX4_waits_23 : decode cX4_waits 23 = .ok (.istore 4, 2) := by decide +kernel
theorem dX4_waits_25 : decode cX4_waits 25 = .ok (.iconst 0, 1) := by decide +kernel
theorem dX4_waits_26 : decode cX4_waits 26 = .ok (.istore 5, 2) := by decide +kernel
theorem dX4_waits_28 : decode cX4_waits 28 = .ok (.iload 5, 2) := by decide +kernel
theorem dX4_waits_30 : decode cX4_waits 30 = .ok (.bipush 24, 2) := by decide +kernel
theorem dX4_waits_32 : decode cX4_waits 32 = .ok (.if_icmp .ge 59, 3) := by decide +kernel
theorem dX4_waits_35 : decode cX4_waits 35 = .ok (.iload_n 2, 1) := by decide +kernel
theorem dX4_waits_36 : decode cX4_waits 36 = .ok (.ifCond .eq 55, 3) := by decide +kernel
theorem dX4_waits_39 : decode cX4_waits 39 = .ok (.aload_n 0, 1) := by decide +kernel
theorem dX4_waits_40 : decode cX4_waits 40 = .ok (.iload_n 2, 1) := by decide +kernel
theorem dX4_waits_41 : decode cX4_waits 41 = .ok (.aload_n 0, 1) := by decide +kernel
theorem dX4_waits_42 : decode cX4_waits 42 = .ok (.getfield 69, 3) := by decide +kernel
theorem dX4_waits_45 : decode cX4_waits 45 = .ok (.iload 5, 2) := by decide +kernel
theorem dX4_waits_47 : decode cX4_waits 47 = .ok (.iadd, 1) := by decide +kernel
theorem dX4_waits_48 : decode cX4_waits 48 = .ok (.aload_n 0, 1) := by decide +kernel
theorem dX4_waits_49 : decode cX4_waits 49 = .ok (.getfield 22, 3) := by decide +kernel
theorem dX4_waits_52 : decode cX4_waits 52 = .ok (.iload_n 1, 1) := by decide +kernel
theorem dX4_waits_53 : decode cX4_waits 53 = .ok (.iaload, 1) := by decide +kernel
theorem dX4_waits_54 : decode cX4_waits 54 = .ok (.bipush 6, 2) := by decide +kernel
theorem dX4_waits_56 : decode cX4_waits 56 = .ok (.irem, 1) := by decide +kernel
theorem dX4_waits_57 : decode cX4_waits 57 = .ok (.invokevirtual 232, 3) := by decide +kernel
theorem dX4_waits_60 : decode cX4_waits 60 = .ok (.istore 6, 2) := by decide +kernel
theorem dX4_waits_62 : decode cX4_waits 62 = .ok (.iload 6, 2) := by decide +kernel
theorem dX4_waits_64 : decode cX4_waits 64 = .ok (.iload 4, 2) := by decide +kernel
theorem dX4_waits_66 : decode cX4_waits 66 = .ok (.if_icmp .ge 8, 3) := by decide +kernel
theorem dX4_waits_69 : decode cX4_waits 69 = .ok (.iload 5, 2) := by decide +kernel
theorem dX4_waits_71 : decode cX4_waits 71 = .ok (.goto 4, 3) := by decide +kernel
theorem dX4_waits_74 : decode cX4_waits 74 = .ok (.iload_n 3, 1) := by decide +kernel
theorem dX4_waits_75 : decode cX4_waits 75 = .ok (.istore_n 3, 1) := by decide +kernel
theorem dX4_waits_76 : decode cX4_waits 76 = .ok (.iload 4, 2) := by decide +kernel
theorem dX4_waits_78 : decode cX4_waits 78 = .ok (.iload 6, 2) := by decide +kernel
theorem dX4_waits_80 : decode cX4_waits 80 = .ok (.invokestatic 203, 3) := by decide +kernel
theorem dX4_waits_83 : decode cX4_waits 83 = .ok (.istore 4, 2) := by decide +kernel
theorem dX4_waits_85 : decode cX4_waits 85 = .ok (.iinc 5 1, 3) := by decide +kernel
theorem dX4_waits_88 : decode cX4_waits 88 = .ok (.goto (-60), 3) := by decide +kernel
theorem dX4_waits_91 : decode cX4_waits 91 = .ok (.iload_n 3, 1) := by decide +kernel
theorem dX4_waits_92 : decode cX4_waits 92 = .ok (.ireturn, 1) := by decide +kernel
set_option maxRecDepth 20000 in
theorem ggX4_gets_X4_driftsIn : GoodIn wsX4_gets wsX4_driftsIn := goodIn_r _ [9, 10, 11, 12, 13, 8, 14, 15, 16, 17, 18, 19, 20, 21, 22, 23, 27, 28, 29, 30, 31, 32, 33, 34, 35, 36, 37, 38, 39, 40, 41, 42, 43, 44, 45, 46, 47, 48, 49, 50, 51, 52, 53, 54, 55, 56] (by decide +kernel) (by decide +kernel)
set_option maxRecDepth 20000 in
theorem gX4_gets_X4_driftsIn : GoodIn wsX4_gets (wsV RX4 178 RX4 yX4_driftsIn wsX4_driftsIn) := goodIn_app (goodIn_of _ (by decide +kernel)) ggX4_gets_X4_driftsIn
set_option maxRecDepth 20000 in
theorem ggX4_gets_X4_far : GoodIn wsX4_gets wsX4_far := goodIn_r _ [26] (by decide +kernel) (by decide +kernel)
set_option maxRecDepth 20000 in
theorem gX4_gets_X4_far : GoodIn wsX4_gets (va_wsS RX4 212 yX4_far wsX4_far) := goodIn_app (goodIn_of _ (by decide +kernel)) ggX4_gets_X4_far
theorem dX4_gets_0 : decode cX4_gets 0 = .ok (.aload_n 0, 1) := by decide +kernel
theorem dX4_gets_1 : decode cX4_gets 1 = .ok (.getfield 22, 3) := by decide +kernel
theorem dX4_gets_4 : decode cX4_gets 4 = .ok (.iload_n 1, 1) := by decide +kernel
theorem dX4_gets_5 : decode cX4_gets 5 = .ok (.iaload, 1) := by decide +kernel
theorem dX4_gets_6 : decode cX4_gets 6 = .ok (.istore 5, 2) := by decide +kernel
theorem dX4_gets_8 : decode cX4_gets 8 = .ok (.aload_n 0, 1) := by decide +kernel
theorem dX4_gets_9 : decode cX4_gets 9 = .ok (.getfield 22, 3) := by decide +kernel
theorem dX4_gets_12 : decode cX4_gets 12 = .ok (.iload_n 2, 1) := by decide +kernel
theorem dX4_gets_13 : decode cX4_gets 13 = .ok (.iaload, 1) := by decide +kernel
theorem dX4_gets_14 : decode cX4_gets 14 = .ok (.istore 6, 2) := by decide +kernel
theorem dX4_gets_16 : decode cX4_gets 16 = .ok (.iconst 0, 1) := by decide +kernel
theorem dX4_gets_17 : decode cX4_gets 17 = .ok (.istore 7, 2) := by decide +kernel
theorem dX4_gets_19 : decode cX4_gets 19 = .ok (.iload 7, 2) := by decide +kernel
theorem dX4_gets_21 : decode cX4_gets 21 = .ok (.iload_n 3, 1) := by decide +kernel
theorem dX4_gets_22 : decode cX4_gets 22 = .ok (.if_icmp .ge 51, 3) := by decide +kernel
theorem dX4_gets_25 : decode cX4_gets 25 = .ok (.aload_n 0, 1) := by decide +kernel
theorem dX4_gets_26 : decode cX4_gets 26 = .ok (.aload_n 0, 1) := by decide +kernel
theorem dX4_gets_27 : decode cX4_gets 27 = .ok (.getfield 19, 3) := by decide +kernel
theorem dX4_gets_30 : decode cX4_gets 30 = .ok (.iload_n 1, 1) := by decide +kernel
theorem dX4_gets_31 : decode cX4_gets 31 = .ok (.iaload, 1) := by decide +kernel
theorem dX4_gets_32 : decode cX4_gets 32 = .ok (.iload 5, 2) := by decide +kernel
theorem dX4_gets_34 : decode cX4_gets 34 = .ok (.aload_n 0, 1) := by decide +kernel
theorem dX4_gets_35 : decode cX4_gets 35 = .ok (.getfield 69, 3) := by decide +kernel
theorem dX4_gets_38 : decode cX4_gets 38 = .ok (.iload 7, 2) := by decide +kernel
theorem dX4_gets_40 : decode cX4_gets 40 = .ok (.iadd, 1) := by decide +kernel
theorem dX4_gets_41 : decode cX4_gets 41 = .ok (.invokevirtual 178, 3) := by decide +kernel
theorem dX4_gets_44 : decode cX4_gets 44 = .ok (.istore 5, 2) := by decide +kernel
theorem dX4_gets_46 : decode cX4_gets 46 = .ok (.aload_n 0, 1) := by decide +kernel
theorem dX4_gets_47 : decode cX4_gets 47 = .ok (.aload_n 0, 1) := by decide +kernel
theorem dX4_gets_48 : decode cX4_gets 48 = .ok (.getfield 19, 3) := by decide +kernel
theorem dX4_gets_51 : decode cX4_gets 51 = .ok (.iload_n 2, 1) := by decide +kernel
theorem dX4_gets_52 : decode cX4_gets 52 = .ok (.iaload, 1) := by decide +kernel
theorem dX4_gets_53 : decode cX4_gets 53 = .ok (.iload 6, 2) := by decide +kernel
theorem dX4_gets_55 : decode cX4_gets 55 = .ok (.aload_n 0, 1) := by decide +kernel
theorem dX4_gets_56 : decode cX4_gets 56 = .ok (.getfield 69, 3) := by decide +kernel
theorem dX4_gets_59 : decode cX4_gets 59 = .ok (.iload 7, 2) := by decide +kernel
theorem dX4_gets_61 : decode cX4_gets 61 = .ok (.iadd, 1) := by decide +kernel
theorem dX4_gets_62 : decode cX4_gets 62 = .ok (.invokevirtual 178, 3) := by decide +kernel
theorem dX4_gets_65 : decode cX4_gets 65 = .ok (.istore 6, 2) := by decide +kernel
theorem dX4_gets_67 : decode cX4_gets 67 = .ok (.iinc 7 1, 3) := by decide +kernel
theorem dX4_gets_70 : decode cX4_gets 70 = .ok (.goto (-51), 3) := by decide +kernel
theorem dX4_gets_73 : decode cX4_gets 73 = .ok (.aload_n 0, 1) := by decide +kernel
theorem dX4_gets_74 : decode cX4_gets 74 = .ok (.getfield 25, 3) := by decide +kernel
theorem dX4_gets_77 : decode cX4_gets 77 = .ok (.iload_n 2, 1) := by decide +kernel
theorem dX4_gets_78 : decode cX4_gets 78 = .ok (.iaload, 1) := by decide +kernel
theorem dX4_gets_79 : decode cX4_gets 79 = .ok (.iload_n 3, 1) := by decide +kernel
theorem dX4_gets_80 : decode cX4_gets 80 = .ok (.if_icmp .le 14, 3) := by decide +kernel
theorem dX4_gets_83 : decode cX4_gets 83 = .ok (.aload_n 0, 1) := by decide +kernel
theorem dX4_gets_84 : decode cX4_gets 84 = .ok (.getfield 25, 3) := by decide +kernel
theorem dX4_gets_87 : decode cX4_gets 87 = .ok (.iload_n 2, 1) := by decide +kernel
theorem dX4_gets_88 : decode cX4_gets 88 = .ok (.iaload, 1) := by decide +kernel
theorem dX4_gets_89 : decode cX4_gets 89 = .ok (.iload_n 3, 1) := by decide +kernel
theorem dX4_gets_90 : decode cX4_gets 90 = .ok (.isub, 1) := by decide +kernel
theorem dX4_gets_91 : decode cX4_gets 91 = .ok (.goto 4, 3) := by decide +kernel
theorem dX4_gets_94 : decode cX4_gets 94 = .ok (.iconst 0, 1) := by decide +kernel
theorem dX4_gets_95 : decode cX4_gets 95 = .ok (.istore 7, 2) := by decide +kernel
theorem dX4_gets_97 : decode cX4_gets 97 = .ok (.iload 7, 2) := by decide +kernel
theorem dX4_gets_99 : decode cX4_gets 99 = .ok (.iload 5, 2) := by decide +kernel
theorem dX4_gets_101 : decode cX4_gets 101 = .ok (.iload 6, 2) := by decide +kernel
theorem dX4_gets_103 : decode cX4_gets 103 = .ok (.invokestatic 212, 3) := by decide +kernel
theorem dX4_gets_106 : decode cX4_gets 106 = .ok (.isub, 1) := by decide +kernel
theorem dX4_gets_107 : decode cX4_gets 107 = .ok (.iload_n 3, 1) := by decide +kernel
theorem dX4_gets_108 : decode cX4_gets 108 = .ok (.iload 4, 2) := by decide +kernel
theorem dX4_gets_110 : decode cX4_gets 110 = .ok (.if_icmp .ne 7, 3) := by decide +kernel
theorem dX4_gets_113 : decode cX4_gets 113 = .ok (.iconst 5, 1) := by decide +kernel
theorem dX4_gets_114 : decode cX4_gets 114 = .ok (.goto 4, 3) := by decide +kernel
theorem dX4_gets_117 : decode cX4_gets 117 = .ok (.iconst 0, 1) := by decide +kernel
theorem dX4_gets_118 : decode cX4_gets 118 = .ok (.isub, 1) := by decide +kernel
theorem dX4_gets_119 : decode cX4_gets 119 = .ok (.ireturn, 1) := by decide +kernel
set_option maxRecDepth 20000 in
theorem ggX4_rests_X4_gets : GoodIn wsX4_rests wsX4_gets := goodIn_r _ [5, 6, 7, 8, 9, 10, 11, 12, 4, 13, 14, 15, 16, 17, 18, 19, 20, 21, 22, 23, 24, 25, 26, 27, 28, 29, 30, 31, 32, 33, 34, 35, 36, 37, 38, 39, 40, 41, 42, 43, 44, 45, 46, 47, 48, 49, 50, 51, 52, 53, 54, 55, 56, 57, 58, 59, 60] (by decide +kernel) (by decide +kernel)
set_option maxRecDepth 20000 in
theorem gX4_rests_X4_gets : GoodIn wsX4_rests (wsV RX4 235 RX4 yX4_gets wsX4_gets) := goodIn_app (goodIn_of _ (by decide +kernel)) ggX4_rests_X4_gets
theorem dX4_rests_0 : decode cX4_rests 0 = .ok (.iconst 1, 1) := by decide +kernel
theorem dX4_rests_1 : decode cX4_rests 1 = .ok (.istore 5, 2) := by decide +kernel
theorem dX4_rests_3 : decode cX4_rests 3 = .ok (.iconst 0, 1) := by decide +kernel
theorem dX4_rests_4 : decode cX4_rests 4 = .ok (.istore 6, 2) := by decide +kernel
theorem dX4_rests_6 : decode cX4_rests 6 = .ok (.iload 6, 2) := by decide +kernel
theorem dX4_rests_8 : decode cX4_rests 8 = .ok (.bipush 6, 2) := by decide +kernel
theorem dX4_rests_10 : decode cX4_rests 10 = .ok (.if_icmp .ge 64, 3) := by decide +kernel
theorem dX4_rests_13 : decode cX4_rests 13 = .ok (.iload 5, 2) := by decide +kernel
theorem dX4_rests_15 : decode cX4_rests 15 = .ok (.ifCond .eq 50, 3) := by decide +kernel
theorem dX4_rests_18 : decode cX4_rests 18 = .ok (.aload_n 0, 1) := by decide +kernel
theorem dX4_rests_19 : decode cX4_rests 19 = .ok (.iload_n 1, 1) := by decide +kernel
theorem dX4_rests_20 : decode cX4_rests 20 = .ok (.iload_n 3, 1) := by decide +kernel
theorem dX4_rests_21 : decode cX4_rests 21 = .ok (.iload_n 2, 1) := by decide +kernel
theorem dX4_rests_22 : decode cX4_rests 22 = .ok (.iload 4, 2) := by decide +kernel
theorem dX4_rests_24 : decode cX4_rests 24 = .ok (.invokevirtual 235, 3) := by decide +kernel
theorem dX4_rests_27 : decode cX4_rests 27 = .ok (.aload_n 0, 1) := by decide +kernel
theorem dX4_rests_28 : decode cX4_rests 28 = .ok (.iload_n 1, 1) := by decide +kernel
theorem dX4_rests_29 : decode cX4_rests 29 = .ok (.iload_n 3, 1) := by decide +kernel
theorem dX4_rests_30 : decode cX4_rests 30 = .ok (.iload 6, 2) := by decide +kernel
theorem dX4_rests_32 : decode cX4_rests 32 = .ok (.iload 4, 2) := by decide +kernel
theorem dX4_rests_34 : decode cX4_rests 34 = .ok (.invokevirtual 235, 3) := by decide +kernel
theorem dX4_rests_37 : decode cX4_rests 37 = .ok (.if_icmp .lt 28, 3) := by decide +kernel
theorem dX4_rests_40 : decode cX4_rests 40 = .ok (.aload_n 0, 1) := by decide +kernel
theorem dX4_rests_41 : decode cX4_rests 41 = .ok (.iload_n 3, 1) := by decide +kernel
theorem dX4_rests_42 : decode cX4_rests 42 = .ok (.iload_n 1, 1) := by decide +kernel
theorem dX4_rests_43 : decode cX4_rests 43 = .ok (.iload 4, 2) := by decide +kernel
theorem dX4_rests_45 : decode cX4_rests 45 = .ok (.iload_n 2, 1) := by decide +kernel
theorem dX4_rests_46 : decode cX4_rests 46 = .ok (.invokevirtual 235, 3) := by decide +kernel
theorem dX4_rests_49 : decode cX4_rests 49 = .ok (.aload_n 0, 1) := by decide +kernel
theorem dX4_rests_50 : decode cX4_rests 50 = .ok (.iload_n 3, 1) := by decide +kernel
theorem dX4_rests_51 : decode cX4_rests 51 = .ok (.iload_n 1, 1) := by decide +kernel
theorem dX4_rests_52 : decode cX4_rests 52 = .ok (.iload 6, 2) := by decide +kernel
theorem dX4_rests_54 : decode cX4_rests 54 = .ok (.iload_n 2, 1) := by decide +kernel
theorem dX4_rests_55 : decode cX4_rests 55 = .ok (.invokevirtual 235, 3) := by decide +kernel
theorem dX4_rests_58 : decode cX4_rests 58 = .ok (.if_icmp .lt 7, 3) := by decide +kernel
theorem dX4_rests_61 : decode cX4_rests 61 = .ok (.iconst 1, 1) := by decide +kernel
theorem dX4_rests_62 : decode cX4_rests 62 = .ok (.goto 4, 3) := by decide +kernel
theorem dX4_rests_65 : decode cX4_rests 65 = .ok (.iconst 0, 1) := by decide +kernel
theorem dX4_rests_66 : decode cX4_rests 66 = .ok (.istore 5, 2) := by decide +kernel
theorem dX4_rests_68 : decode cX4_rests 68 = .ok (.iinc 6 1, 3) := by decide +kernel
theorem dX4_rests_71 : decode cX4_rests 71 = .ok (.goto (-65), 3) := by decide +kernel
theorem dX4_rests_74 : decode cX4_rests 74 = .ok (.iload 5, 2) := by decide +kernel
theorem dX4_rests_76 : decode cX4_rests 76 = .ok (.ireturn, 1) := by decide +kernel
set_option maxRecDepth 20000 in
theorem ggX4_leave_X4_isFloe : GoodIn wsX4_leave wsX4_isFloe := goodIn_r _ [5, 6, 7, 8, 4, 9, 48, 49, 50, 51, 52, 53, 54, 55, 56, 57, 58, 59, 60, 61, 62, 63, 64, 65, 66, 67, 68, 69, 70, 71, 72, 73, 74, 75, 76, 77] (by decide +kernel) (by decide +kernel)
set_option maxRecDepth 20000 in
theorem gX4_leave_X4_isFloe : GoodIn wsX4_leave (wsV RX4 200 RX4 yX4_isFloe wsX4_isFloe) := goodIn_app (goodIn_of _ (by decide +kernel)) ggX4_leave_X4_isFloe
set_option maxRecDepth 20000 in
theorem ggX4_leave_X4_ten : GoodIn wsX4_leave wsX4_ten := goodIn_r _ [13, 14, 48, 49, 50, 51, 52, 53, 54, 55, 56, 57, 58, 59, 60, 61, 62, 63, 64, 65, 66, 67, 68, 69, 70, 71, 72, 73, 74, 75, 76, 77] (by decide +kernel) (by decide +kernel)
set_option maxRecDepth 20000 in
theorem gX4_leave_X4_ten : GoodIn wsX4_leave (wsV RX4 239 RX4 yX4_ten wsX4_ten) := goodIn_app (goodIn_of _ (by decide +kernel)) ggX4_leave_X4_ten
set_option maxRecDepth 20000 in
theorem ggX4_leave_X4_rests : GoodIn wsX4_leave wsX4_rests := goodIn_r _ [18, 19, 20, 21, 4, 22, 23, 24, 25, 26, 27, 28, 29, 30, 31, 32, 33, 34, 35, 36, 37, 38, 39, 40, 41, 42, 43, 44, 45, 46, 47, 48, 49, 50, 51, 52, 53, 54, 55, 56, 57, 58, 59, 60, 61, 62, 63, 64, 65, 66, 67, 68, 69, 70, 71, 72, 73, 74, 75, 76, 77] (by decide +kernel) (by decide +kernel)
set_option maxRecDepth 20000 in
theorem gX4_leave_X4_rests : GoodIn wsX4_leave (wsV RX4 242 RX4 yX4_rests wsX4_rests) := goodIn_app (goodIn_of _ (by decide +kernel)) ggX4_leave_X4_rests
theorem dX4_leave_0 : decode cX4_leave 0 = .ok (.aload_n 0, 1) := by decide +kernel
theorem dX4_leave_1 : decode cX4_leave 1 = .ok (.iload_n 1, 1) := by decide +kernel
theorem dX4_leave_2 : decode cX4_leave 2 = .ok (.invokevirtual 200, 3) := by decide +kernel
theorem dX4_leave_5 : decode cX4_leave 5 = .ok (.ifCond .eq 21, 3) := by decide +kernel
theorem dX4_leave_8 : decode cX4_leave 8 = .ok (.aload_n 0, 1) := by decide +kernel
theorem dX4_leave_9 : decode cX4_leave 9 = .ok (.iload_n 2, 1) := by decide +kernel
theorem dX4_leave_10 : decode cX4_leave 10 = .ok (.invokevirtual 200, 3) := by decide +kernel
theorem dX4_leave_13 : decode cX4_leave 13 = .ok (.ifCond .eq 13, 3) := by decide +kernel
theorem dX4_leave_16 : decode cX4_leave 16 = .ok (.iload_n 1, 1) := by decide +kernel
theorem dX4_leave_17 : decode cX4_leave 17 = .ok (.iload_n 2, 1) := by decide +kernel
theorem dX4_leave_18 : decode cX4_leave 18 = .ok (.if_icmp .eq 8, 3) := by decide +kernel
theorem dX4_leave_21 : decode cX4_leave 21 = .ok (.iload_n 3, 1) := by decide +kernel
theorem dX4_leave_22 : decode cX4_leave 22 = .ok (.iconst (-1), 1) := by decide +kernel
theorem dX4_leave_23 : decode cX4_leave 23 = .ok (.if_icmp .ge 8, 3) := by decide +kernel
theorem dX4_leave_26 : decode cX4_leave 26 = .ok (.aload_n 0, 1) := by decide +kernel
theorem dX4_leave_27 : decode cX4_leave 27 = .ok (.invokevirtual 239, 3) := by decide +kernel
theorem dX4_leave_30 : decode cX4_leave 30 = .ok (.ireturn, 1) := by decide +kernel
theorem dX4_leave_31 : decode cX4_leave 31 = .ok (.iconst 0, 1) := by decide +kernel
theorem dX4_leave_32 : decode cX4_leave 32 = .ok (.istore 4, 2) := by decide +kernel
theorem dX4_leave_34 : decode cX4_leave 34 = .ok (.bipush (-5), 2) := by decide +kernel
theorem dX4_leave_36 : decode cX4_leave 36 = .ok (.istore 5, 2) := by decide +kernel
theorem dX4_leave_38 : decode cX4_leave 38 = .ok (.iconst 0, 1) := by decide +kernel
theorem dX4_leave_39 : decode cX4_leave 39 = .ok (.istore 6, 2) := by decide +kernel
theorem dX4_leave_41 : decode cX4_leave 41 = .ok (.iload 6, 2) := by decide +kernel
theorem dX4_leave_43 : decode cX4_leave 43 = .ok (.bipush 6, 2) := by decide +kernel
theorem dX4_leave_45 : decode cX4_leave 45 = .ok (.if_icmp .ge 62, 3) := by decide +kernel
theorem dX4_leave_48 : decode cX4_leave 48 = .ok (.iconst 0, 1) := by decide +kernel
theorem dX4_leave_49 : decode cX4_leave 49 = .ok (.istore 7, 2) := by decide +kernel
theorem dX4_leave_51 : decode cX4_leave 51 = .ok (.iload 7, 2) := by decide +kernel
theorem dX4_leave_53 : decode cX4_leave 53 = .ok (.bipush 6, 2) := by decide +kernel
theorem dX4_leave_55 : decode cX4_leave 55 = .ok (.if_icmp .ge 46, 3) := by decide +kernel
theorem dX4_leave_58 : decode cX4_leave 58 = .ok (.aload_n 0, 1) := by decide +kernel
theorem dX4_leave_59 : decode cX4_leave 59 = .ok (.iload_n 1, 1) := by decide +kernel
theorem dX4_leave_60 : decode cX4_leave 60 = .ok (.iload 6, 2) := by decide +kernel
theorem dX4_leave_62 : decode cX4_leave 62 = .ok (.iload_n 2, 1) := by decide +kernel
theorem dX4_leave_63 : decode cX4_leave 63 = .ok (.iload 7, 2) := by decide +kernel
theorem dX4_leave_65 : decode cX4_leave 65 = .ok (.invokevirtual 242, 3) := by decide +kernel
theorem dX4_leave_68 : decode cX4_leave 68 = .ok (.ifCond .eq 27, 3) := by decide +kernel
theorem dX4_leave_71 : decode cX4_leave 71 = .ok (.iload 4, 2) := by decide +kernel
theorem dX4_leave_73 : decode cX4_leave 73 = .ok (.iload_n 3, 1) := by decide +kernel
theorem dX4_leave_74 : decode cX4_leave 74 = .ok (.if_icmp .ne 14, 3) := by decide +kernel
theorem dX4_leave_77 : decode cX4_leave 77 = .ok (.bipush 6, 2) := by decide +kernel
theorem dX4_leave_79 : decode cX4_leave 79 = .ok (.iload 6, 2) := by decide +kernel
theorem dX4_leave_81 : decode cX4_leave 81 = .ok (.imul, 1) := by decide +kernel
theorem dX4_leave_82 : decode cX4_leave 82 = .ok (.iload 7, 2) := by decide +kernel
theorem dX4_leave_84 : decode cX4_leave 84 = .ok (.iadd, 1) := by decide +kernel
theorem dX4_leave_85 : decode cX4_leave 85 = .ok (.goto 5, 3) := by decide +kernel
theorem dX4_leave_88 : decode cX4_leave 88 = .ok (.iload 5, 2) := by decide +kernel
theorem dX4_leave_90 : decode cX4_leave 90 = .ok (.istore 5, 2) := by decide +kernel
theorem dX4_leave_92 : decode cX4_leave 92 = .ok (.iinc 4 1, 3) := by decide +kernel
theorem dX4_leave_95 : decode cX4_leave 95 = .ok (.iinc 7 1, 3) := by decide +kernel
theorem dX4_leave_98 : decode cX4_leave 98 = .ok (.goto (-47), 3) := by decide +kernel
theorem dX4_leave_101 : decode cX4_leave 101 = .ok (.iinc 6 1, 3) := by decide +kernel
theorem dX4_leave_104 : decode cX4_leave 104 = .ok (.goto (-63), 3) := by decide +kernel
theorem dX4_leave_107 : decode cX4_leave 107 = .ok (.iload_n 3, 1) := by decide +kernel
theorem dX4_leave_108 : decode cX4_leave 108 = .ok (.iconst (-1), 1) := by decide +kernel
theorem dX4_leave_109 : decode cX4_leave 109 = .ok (.if_icmp .ne 8, 3) := by decide +kernel
theorem dX4_leave_112 : decode cX4_leave 112 = .ok (.iload 4, 2) := by decide +kernel
theorem dX4_leave_114 : decode cX4_leave 114 = .ok (.goto 5, 3) := by decide +kernel
theorem dX4_leave_117 : decode cX4_leave 117 = .ok (.iload 5, 2) := by decide +kernel
theorem dX4_leave_119 : decode cX4_leave 119 = .ok (.ireturn, 1) := by decide +kernel
theorem dX4_lay_0 : decode cX4_lay 0 = .ok (.lload_n 1, 1) := by decide +kernel
theorem dX4_lay_1 : decode cX4_lay 1 = .ok (.lstore 5, 2) := by decide +kernel
theorem dX4_lay_3 : decode cX4_lay 3 = .ok (.lload_n 3, 1) := by decide +kernel
theorem dX4_lay_4 : decode cX4_lay 4 = .ok (.lstore 7, 2) := by decide +kernel
theorem dX4_lay_6 : decode cX4_lay 6 = .ok (.lload 7, 2) := by decide +kernel
theorem dX4_lay_8 : decode cX4_lay 8 = .ok (.lconst 0, 1) := by decide +kernel
theorem dX4_lay_9 : decode cX4_lay 9 = .ok (.lcmp, 1) := by decide +kernel
theorem dX4_lay_10 : decode cX4_lay 10 = .ok (.ifCond .eq 21, 3) := by decide +kernel
theorem dX4_lay_13 : decode cX4_lay 13 = .ok (.lload 5, 2) := by decide +kernel
theorem dX4_lay_15 : decode cX4_lay 15 = .ok (.lload 7, 2) := by decide +kernel
theorem dX4_lay_17 : decode cX4_lay 17 = .ok (.lrem, 1) := by decide +kernel
theorem dX4_lay_18 : decode cX4_lay 18 = .ok (.lstore 9, 2) := by decide +kernel
theorem dX4_lay_20 : decode cX4_lay 20 = .ok (.lload 7, 2) := by decide +kernel
theorem dX4_lay_22 : decode cX4_lay 22 = .ok (.lstore 5, 2) := by decide +kernel
theorem dX4_lay_24 : decode cX4_lay 24 = .ok (.lload 9, 2) := by decide +kernel
theorem dX4_lay_26 : decode cX4_lay 26 = .ok (.lstore 7, 2) := by decide +kernel
theorem dX4_lay_28 : decode cX4_lay 28 = .ok (.goto (-22), 3) := by decide +kernel
theorem dX4_lay_31 : decode cX4_lay 31 = .ok (.aload_n 0, 1) := by decide +kernel
theorem dX4_lay_32 : decode cX4_lay 32 = .ok (.lload_n 1, 1) := by decide +kernel
theorem dX4_lay_33 : decode cX4_lay 33 = .ok (.lload 5, 2) := by decide +kernel
theorem dX4_lay_35 : decode cX4_lay 35 = .ok (.ldiv, 1) := by decide +kernel
theorem dX4_lay_36 : decode cX4_lay 36 = .ok (.putfield 245, 3) := by decide +kernel
theorem dX4_lay_39 : decode cX4_lay 39 = .ok (.aload_n 0, 1) := by decide +kernel
theorem dX4_lay_40 : decode cX4_lay 40 = .ok (.lload_n 3, 1) := by decide +kernel
theorem dX4_lay_41 : decode cX4_lay 41 = .ok (.lload 5, 2) := by decide +kernel
theorem dX4_lay_43 : decode cX4_lay 43 = .ok (.ldiv, 1) := by decide +kernel
theorem dX4_lay_44 : decode cX4_lay 44 = .ok (.putfield 55, 3) := by decide +kernel
theorem dX4_lay_47 : decode cX4_lay 47 = .ok (.return_, 1) := by decide +kernel
set_option maxRecDepth 20000 in
theorem ggX4_calms_X4_isFloe : GoodIn wsX4_calms wsX4_isFloe := goodIn_r _ [9, 10, 11, 12, 8, 13, 49, 50, 51, 52, 53, 54, 55, 56, 57, 58, 59, 60, 61, 62, 63, 64, 65, 66, 67, 68, 69, 70, 71, 72, 73, 74, 75, 76, 77, 78] (by decide +kernel) (by decide +kernel)
set_option maxRecDepth 20000 in
theorem gX4_calms_X4_isFloe : GoodIn wsX4_calms (wsV RX4 200 RX4 yX4_isFloe wsX4_isFloe) := goodIn_app (goodIn_of _ (by decide +kernel)) ggX4_calms_X4_isFloe
set_option maxRecDepth 20000 in
theorem ggX4_calms_X4_in : GoodIn wsX4_calms wsX4_in := goodIn_r _ [13] (by decide +kernel) (by decide +kernel)
set_option maxRecDepth 20000 in
theorem gX4_calms_X4_in : GoodIn wsX4_calms (va_wsS RX4 85 yX4_in wsX4_in) := goodIn_app (goodIn_of _ (by decide +kernel)) ggX4_calms_X4_in
set_option maxRecDepth 20000 in
theorem ggX4_calms_X4_bad : GoodIn wsX4_calms wsX4_bad := goodIn_r _ [17, 18, 49, 50, 51, 52, 53, 54, 55, 56, 57, 58, 59, 60, 61, 62, 63, 64, 65, 66, 67, 68, 69, 70, 71, 72, 73, 74, 75, 76, 77, 78] (by decide +kernel) (by decide +kernel)
set_option maxRecDepth 20000 in
theorem gX4_calms_X4_bad : GoodIn wsX4_calms (wsV RX4 89 RX4 yX4_bad wsX4_bad) := goodIn_app (goodIn_of _ (by decide +kernel)) ggX4_calms_X4_bad
set_option maxRecDepth 20000 in
theorem ggX4_calms_X4_has : GoodIn wsX4_calms wsX4_has := goodIn_r _ [21] (by decide +kernel) (by decide +kernel)
set_option maxRecDepth 20000 in
theorem gX4_calms_X4_has : GoodIn wsX4_calms (va_wsS RX4 224 yX4_has wsX4_has) := goodIn_app (goodIn_of _ (by decide +kernel)) ggX4_calms_X4_has
set_option maxRecDepth 20000 in
theorem ggX4_calms_X4_driftsIn : GoodIn wsX4_calms wsX4_driftsIn := goodIn_r _ [25, 26, 27, 28, 29, 8, 30, 31, 32, 33, 34, 35, 36, 37, 38, 39, 49, 50, 51, 52, 53, 54, 55, 56, 57, 58, 59, 60, 61, 62, 63, 64, 65, 66, 67, 68, 69, 70, 71, 72, 73, 74, 75, 76, 77, 78] (by decide +kernel) (by decide +kernel)
set_option maxRecDepth 20000 in
theorem gX4_calms_X4_driftsIn : GoodIn wsX4_calms (wsV RX4 178 RX4 yX4_driftsIn wsX4_driftsIn) := goodIn_app (goodIn_of _ (by decide +kernel)) ggX4_calms_X4_driftsIn
set_option maxRecDepth 20000 in
theorem ggX4_calms_X4_isOut : GoodIn wsX4_calms wsX4_isOut := goodIn_r _ [42] (by decide +kernel) (by decide +kernel)
set_option maxRecDepth 20000 in
theorem gX4_calms_X4_isOut : GoodIn wsX4_calms (va_wsS RX4 181 yX4_isOut wsX4_isOut) := goodIn_app (goodIn_of _ (by decide +kernel)) ggX4_calms_X4_isOut
set_option maxRecDepth 20000 in
theorem ggX4_calms_X4_lay : GoodIn wsX4_calms wsX4_lay := goodIn_r _ [46, 47, 48, 49, 50, 51, 52, 53, 54, 55, 56, 57, 58, 59, 60, 61, 62, 63, 64, 65, 66, 67, 68, 69, 70, 71, 72, 73, 74, 75, 76, 77, 78] (by decide +kernel) (by decide +kernel)
set_option maxRecDepth 20000 in
theorem gX4_calms_X4_lay : GoodIn wsX4_calms (wsV RX4 250 RX4 yX4_lay wsX4_lay) := goodIn_app (goodIn_of _ (by decide +kernel)) ggX4_calms_X4_lay
theorem dX4_calms_0 : decode cX4_calms 0 = .ok (.aload_n 0, 1) := by decide +kernel
theorem dX4_calms_1 : decode cX4_calms 1 = .ok (.iload_n 1, 1) := by decide +kernel
theorem dX4_calms_2 : decode cX4_calms 2 = .ok (.invokevirtual 200, 3) := by decide +kernel
theorem dX4_calms_5 : decode cX4_calms 5 = .ok (.ifCond .eq 23, 3) := by decide +kernel
theorem dX4_calms_8 : decode cX4_calms 8 = .ok (.iload_n 2, 1) := by decide +kernel
theorem dX4_calms_9 : decode cX4_calms 9 = .ok (.iconst 0, 1) := by decide +kernel
theorem dX4_calms_10 : decode cX4_calms 10 = .ok (.bipush 8, 2) := by decide +kernel
theorem dX4_calms_12 : decode cX4_calms 12 = .ok (.invokestatic 85, 3) := by decide +kernel
theorem dX4_calms_15 : decode cX4_calms 15 = .ok (.ifCond .eq 13, 3) := by decide +kernel
theorem dX4_calms_18 : decode cX4_calms 18 = .ok (.iload_n 3, 1) := by decide +kernel
theorem dX4_calms_19 : decode cX4_calms 19 = .ok (.iconst 0, 1) := by decide +kernel
theorem dX4_calms_20 : decode cX4_calms 20 = .ok (.bipush 10, 2) := by decide +kernel
theorem dX4_calms_22 : decode cX4_calms 22 = .ok (.invokestatic 85, 3) := by decide +kernel
theorem dX4_calms_25 : decode cX4_calms 25 = .ok (.ifCond .ne 8, 3) := by decide +kernel
theorem dX4_calms_28 : decode cX4_calms 28 = .ok (.aload_n 0, 1) := by decide +kernel
theorem dX4_calms_29 : decode cX4_calms 29 = .ok (.invokevirtual 89, 3) := by decide +kernel
theorem dX4_calms_32 : decode cX4_calms 32 = .ok (.ireturn, 1) := by decide +kernel
theorem dX4_calms_33 : decode cX4_calms 33 = .ok (.lconst 0, 1) := by decide +kernel
theorem dX4_calms_34 : decode cX4_calms 34 = .ok (.lstore 4, 2) := by decide +kernel
theorem dX4_calms_36 : decode cX4_calms 36 = .ok (.lconst 1, 1) := by decide +kernel
theorem dX4_calms_37 : decode cX4_calms 37 = .ok (.lstore 6, 2) := by decide +kernel
theorem dX4_calms_39 : decode cX4_calms 39 = .ok (.iconst 0, 1) := by decide +kernel
theorem dX4_calms_40 : decode cX4_calms 40 = .ok (.istore 8, 2) := by decide +kernel
theorem dX4_calms_42 : decode cX4_calms 42 = .ok (.iload 8, 2) := by decide +kernel
theorem dX4_calms_44 : decode cX4_calms 44 = .ok (.iload_n 2, 1) := by decide +kernel
theorem dX4_calms_45 : decode cX4_calms 45 = .ok (.if_icmp .ge 17, 3) := by decide +kernel
theorem dX4_calms_48 : decode cX4_calms 48 = .ok (.lload 6, 2) := by decide +kernel
theorem dX4_calms_50 : decode cX4_calms 50 = .ok (.ldc2_w 248, 3) := by decide +kernel
theorem dX4_calms_53 : decode cX4_calms 53 = .ok (.lmul, 1) := by decide +kernel
theorem dX4_calms_54 : decode cX4_calms 54 = .ok (.lstore 6, 2) := by decide +kernel
theorem dX4_calms_56 : decode cX4_calms 56 = .ok (.iinc 8 1, 3) := by decide +kernel
theorem dX4_calms_59 : decode cX4_calms 59 = .ok (.goto (-17), 3) := by decide +kernel
theorem dX4_calms_62 : decode cX4_calms 62 = .ok (.iconst 0, 1) := by decide +kernel
theorem dX4_calms_63 : decode cX4_calms 63 = .ok (.istore 8, 2) := by decide +kernel
theorem dX4_calms_65 : decode cX4_calms 65 = .ok (.iload 8, 2) := by decide +kernel
theorem dX4_calms_67 : decode cX4_calms 67 = .ok (.iconst 1, 1) := by decide +kernel
theorem dX4_calms_68 : decode cX4_calms 68 = .ok (.iload_n 2, 1) := by decide +kernel
theorem dX4_calms_69 : decode cX4_calms 69 = .ok (.ishl, 1) := by decide +kernel
theorem dX4_calms_70 : decode cX4_calms 70 = .ok (.if_icmp .ge 115, 3) := by decide +kernel
theorem dX4_calms_73 : decode cX4_calms 73 = .ok (.aload_n 0, 1) := by decide +kernel
theorem dX4_calms_74 : decode cX4_calms 74 = .ok (.getfield 22, 3) := by decide +kernel
theorem dX4_calms_77 : decode cX4_calms 77 = .ok (.iload_n 1, 1) := by decide +kernel
theorem dX4_calms_78 : decode cX4_calms 78 = .ok (.iaload, 1) := by decide +kernel
theorem dX4_calms_79 : decode cX4_calms 79 = .ok (.istore 9, 2) := by decide +kernel
theorem dX4_calms_81 : decode cX4_calms 81 = .ok (.lconst 1, 1) := by decide +kernel
theorem dX4_calms_82 : decode cX4_calms 82 = .ok (.lstore 10, 2) := by decide +kernel
theorem dX4_calms_84 : decode cX4_calms 84 = .ok (.iconst 0, 1) := by decide +kernel
theorem dX4_calms_85 : decode cX4_calms 85 = .ok (.istore 12, 2) := by decide +kernel
theorem dX4_calms_87 : decode cX4_calms 87 = .ok (.iload 12, 2) := by decide +kernel
theorem dX4_calms_89 : decode cX4_calms 89 = .ok (.iload_n 2, 1) := by decide +kernel
theorem dX4_calms_90 : decode cX4_calms 90 = .ok (.if_icmp .ge 70, 3) := by decide +kernel
theorem dX4_calms_93 : decode cX4_calms 93 = .ok (.iload 8, 2) := by decide +kernel
theorem dX4_calms_95 : decode cX4_calms 95 = .ok (.iload 12, 2) := by decide +kernel
theorem dX4_calms_97 : decode cX4_calms 97 = .ok (.invokestatic 224, 3) := by decide +kernel
theorem dX4_calms_100 : decode cX4_calms 100 = .ok (.ifCond .eq 8, 3) := by decide +kernel
theorem dX4_calms_103 : decode cX4_calms 103 = .ok (.iload 9, 2) := by decide +kernel
theorem dX4_calms_105 : decode cX4_calms 105 = .ok (.goto 22, 3) := by decide +kernel
theorem dX4_calms_108 : decode cX4_calms 108 = .ok (.aload_n 0, 1) := by decide +kernel
theorem dX4_calms_109 : decode cX4_calms 109 = .ok (.aload_n 0, 1) := by decide +kernel
theorem dX4_calms_110 : decode cX4_calms 110 = .ok (.getfield 19, 3) := by decide +kernel
theorem dX4_calms_113 : decode cX4_calms 113 = .ok (.iload_n 1, 1) := by decide +kernel
theorem dX4_calms_114 : decode cX4_calms 114 = .ok (.iaload, 1) := by decide +kernel
theorem dX4_calms_115 : decode cX4_calms 115 = .ok (.iload 9, 2) := by decide +kernel
theorem dX4_calms_117 : decode cX4_calms 117 = .ok (.aload_n 0, 1) := by decide +kernel
theorem dX4_calms_118 : decode cX4_calms 118 = .ok (.getfield 69, 3) := by decide +kernel
theorem dX4_calms_121 : decode cX4_calms 121 = .ok (.iload 12, 2) := by decide +kernel
theorem dX4_calms_123 : decode cX4_calms 123 = .ok (.iadd, 1) := by decide +kernel
theorem dX4_calms_124 : decode cX4_calms 124 = .ok (.invokevirtual 178, 3) := by decide +kernel
theorem dX4_calms_127 : decode cX4_calms 127 = .ok (.istore 9, 2) := by decide +kernel
theorem dX4_calms_129 : decode cX4_calms 129 = .ok (.lload 10, 2) := by decide +kernel
theorem dX4_calms_131 : decode cX4_calms 131 = .ok (.iload 8, 2) := by decide +kernel
theorem dX4_calms_133 : decode cX4_calms 133 = .ok (.iload 12, 2) := by decide +kernel
theorem dX4_calms_135 : decode cX4_calms 135 = .ok (.invokestatic 224, 3) := by decide +kernel
theorem dX4_calms_138 : decode cX4_calms 138 = .ok (.ifCond .eq 8, 3) := by decide +kernel
theorem dX4_calms_141 : decode cX4_calms 141 = .ok (.iload_n 3, 1) := by decide +kernel
theorem dX4_calms_142 : decode cX4_calms 142 = .ok (.i2l, 1) := by decide +kernel
theorem dX4_calms_143 : decode cX4_calms 143 = .ok (.goto 8, 3) := by decide +kernel
theorem dX4_calms_146 : decode cX4_calms 146 = .ok (.bipush 10, 2) := by decide +kernel
theorem dX4_calms_148 : decode cX4_calms 148 = .ok (.iload_n 3, 1) := by decide +kernel
theorem dX4_calms_149 : decode cX4_calms 149 = .ok (.isub, 1) := by decide +kernel
theorem dX4_calms_150 : decode cX4_calms 150 = .ok (.i2l, 1) := by decide +kernel
theorem dX4_calms_151 : decode cX4_calms 151 = .ok (.lmul, 1) := by decide +kernel
theorem dX4_calms_152 : decode cX4_calms 152 = .ok (.lstore 10, 2) := by decide +kernel
theorem dX4_calms_154 : decode cX4_calms 154 = .ok (.iinc 12 1, 3) := by decide +kernel
theorem dX4_calms_157 : decode cX4_calms 157 = .ok (.goto (-70), 3) := by decide +kernel
theorem dX4_calms_160 : decode cX4_calms 160 = .ok (.lload 4, 2) := by decide +kernel
theorem dX4_calms_162 : decode cX4_calms 162 = .ok (.iload 9, 2) := by decide +kernel
theorem dX4_calms_164 : decode cX4_calms 164 = .ok (.invokestatic 181, 3) := by decide +kernel
theorem dX4_calms_167 : decode cX4_calms 167 = .ok (.ifCond .eq 8, 3) := by decide +kernel
theorem dX4_calms_170 : decode cX4_calms 170 = .ok (.lload 10, 2) := by decide +kernel
theorem dX4_calms_172 : decode cX4_calms 172 = .ok (.goto 4, 3) := by decide +kernel
theorem dX4_calms_175 : decode cX4_calms 175 = .ok (.lconst 0, 1) := by decide +kernel
theorem dX4_calms_176 : decode cX4_calms 176 = .ok (.ladd, 1) := by decide +kernel
theorem dX4_calms_177 : decode cX4_calms 177 = .ok (.lstore 4, 2) := by decide +kernel
theorem dX4_calms_179 : decode cX4_calms 179 = .ok (.iinc 8 1, 3) := by decide +kernel
theorem dX4_calms_182 : decode cX4_calms 182 = .ok (.goto (-117), 3) := by decide +kernel
theorem dX4_calms_185 : decode cX4_calms 185 = .ok (.aload_n 0, 1) := by decide +kernel
theorem dX4_calms_186 : decode cX4_calms 186 = .ok (.lload 4, 2) := by decide +kernel
theorem dX4_calms_188 : decode cX4_calms 188 = .ok (.lload 6, 2) := by decide +kernel
theorem dX4_calms_190 : decode cX4_calms 190 = .ok (.invokevirtual 250, 3) := by decide +kernel
theorem dX4_calms_193 : decode cX4_calms 193 = .ok (.iconst 1, 1) := by decide +kernel
theorem dX4_calms_194 : decode cX4_calms 194 = .ok (.ireturn, 1) := by decide +kernel
set_option maxRecDepth 20000 in
theorem ggX4_years_X4_in : GoodIn wsX4_years wsX4_in := goodIn_r _ [15] (by decide +kernel) (by decide +kernel)
set_option maxRecDepth 20000 in
theorem gX4_years_X4_in : GoodIn wsX4_years (va_wsS RX4 85 yX4_in wsX4_in) := goodIn_app (goodIn_of _ (by decide +kernel)) ggX4_years_X4_in
set_option maxRecDepth 20000 in
theorem ggX4_years_X4_bad : GoodIn wsX4_years wsX4_bad := goodIn_r _ [19, 20, 58, 59, 60, 61, 62, 63, 64, 65, 66, 67, 68, 69, 70, 71, 72, 73, 74, 75, 76, 77, 78, 79, 80, 81, 82, 83, 84, 85, 86, 87] (by decide +kernel) (by decide +kernel)
set_option maxRecDepth 20000 in
theorem gX4_years_X4_bad : GoodIn wsX4_years (wsV RX4 89 RX4 yX4_bad wsX4_bad) := goodIn_app (goodIn_of _ (by decide +kernel)) ggX4_years_X4_bad
set_option maxRecDepth 20000 in
theorem ggX4_years_X4_puts : GoodIn wsX4_years wsX4_puts := goodIn_r _ [24, 25, 26, 27, 28, 14, 29, 11, 9, 30, 58, 59, 60, 61, 62, 63, 64, 65, 66, 67, 68, 69, 70, 71, 72, 73, 74, 75, 76, 77, 78, 79, 80, 81, 82, 83, 84, 85, 86, 87] (by decide +kernel) (by decide +kernel)
set_option maxRecDepth 20000 in
theorem gX4_years_X4_puts : GoodIn wsX4_years (wsV RX4 255 RX4 yX4_puts wsX4_puts) := goodIn_app (goodIn_of _ (by decide +kernel)) ggX4_years_X4_puts
set_option maxRecDepth 20000 in
theorem ggX4_years_X4_drifts : GoodIn wsX4_years wsX4_drifts := goodIn_r _ [33, 34, 35, 14, 36, 37, 38, 39, 40, 41, 42] (by decide +kernel) (by decide +kernel)
set_option maxRecDepth 20000 in
theorem gX4_years_X4_drifts : GoodIn wsX4_years (va_wsS RX4 174 yX4_drifts wsX4_drifts) := goodIn_app (goodIn_of _ (by decide +kernel)) ggX4_years_X4_drifts
set_option maxRecDepth 20000 in
theorem ggX4_years_X4_outs : GoodIn wsX4_years wsX4_outs := goodIn_r _ [46, 8, 9, 47, 48, 14, 49, 58, 59, 60, 61, 62, 63, 64, 65, 66, 67, 68, 69, 70, 71, 72, 73, 74, 75, 76, 77, 78, 79, 80, 81, 82, 83, 84, 85, 86, 87] (by decide +kernel) (by decide +kernel)
set_option maxRecDepth 20000 in
theorem gX4_years_X4_outs : GoodIn wsX4_years (wsV RX4 197 RX4 yX4_outs wsX4_outs) := goodIn_app (goodIn_of _ (by decide +kernel)) ggX4_years_X4_outs
set_option maxRecDepth 20000 in
theorem ggX4_years_X4_back : GoodIn wsX4_years wsX4_back := goodIn_r _ [53, 25, 54, 55, 56, 14, 57, 11, 9, 30, 58, 59, 60, 61, 62, 63, 64, 65, 66, 67, 68, 69, 70, 71, 72, 73, 74, 75, 76, 77, 78, 79, 80, 81, 82, 83, 84, 85, 86, 87] (by decide +kernel) (by decide +kernel)
set_option maxRecDepth 20000 in
theorem gX4_years_X4_back : GoodIn wsX4_years (wsV RX4 270 RX4 yX4_back wsX4_back) := goodIn_app (goodIn_of _ (by decide +kernel)) ggX4_years_X4_back
theorem dX4_years_0 : decode cX4_years 0 = .ok (.iload_n 1, 1) := by decide +kernel
theorem dX4_years_1 : decode cX4_years 1 = .ok (.iconst 0, 1) := by decide +kernel
theorem dX4_years_2 : decode cX4_years 2 = .ok (.ldc 254, 2) := by decide +kernel
theorem dX4_years_4 : decode cX4_years 4 = .ok (.invokestatic 85, 3) := by decide +kernel
theorem dX4_years_7 : decode cX4_years 7 = .ok (.ifCond .eq 13, 3) := by decide +kernel
theorem dX4_years_10 : decode cX4_years 10 = .ok (.iload_n 2, 1) := by decide +kernel
theorem dX4_years_11 : decode cX4_years 11 = .ok (.iconst 0, 1) := by decide +kernel
theorem dX4_years_12 : decode cX4_years 12 = .ok (.bipush 60, 2) := by decide +kernel
theorem dX4_years_14 : decode cX4_years 14 = .ok (.invokestatic 85, 3) := by decide +kernel
theorem dX4_years_17 : decode cX4_years 17 = .ok (.ifCond .ne 8, 3) := by decide +kernel
theorem dX4_years_20 : decode cX4_years 20 = .ok (.aload_n 0, 1) := by decide +kernel
theorem dX4_years_21 : decode cX4_years 21 = .ok (.invokevirtual 89, 3) := by decide +kernel
theorem dX4_years_24 : decode cX4_years 24 = .ok (.ireturn, 1) := by decide +kernel
theorem dX4_years_25 : decode cX4_years 25 = .ok (.aload_n 0, 1) := by decide +kernel
theorem dX4_years_26 : decode cX4_years 26 = .ok (.invokevirtual 255, 3) := by decide +kernel
theorem dX4_years_29 : decode cX4_years 29 = .ok (.iload_n 1, 1) := by decide +kernel
theorem dX4_years_30 : decode cX4_years 30 = .ok (.i2l, 1) := by decide +kernel
theorem dX4_years_31 : decode cX4_years 31 = .ok (.lstore_n 3, 1) := by decide +kernel
theorem dX4_years_32 : decode cX4_years 32 = .ok (.iconst 0, 1) := by decide +kernel
theorem dX4_years_33 : decode cX4_years 33 = .ok (.istore 5, 2) := by decide +kernel
theorem dX4_years_35 : decode cX4_years 35 = .ok (.iload 5, 2) := by decide +kernel
theorem dX4_years_37 : decode cX4_years 37 = .ok (.iload_n 2, 1) := by decide +kernel
theorem dX4_years_38 : decode cX4_years 38 = .ok (.if_icmp .ge 107, 3) := by decide +kernel
theorem dX4_years_41 : decode cX4_years 41 = .ok (.lload_n 3, 1) := by decide +kernel
theorem dX4_years_42 : decode cX4_years 42 = .ok (.ldc2_w 258, 3) := by decide +kernel
theorem dX4_years_45 : decode cX4_years 45 = .ok (.lmul, 1) := by decide +kernel
theorem dX4_years_46 : decode cX4_years 46 = .ok (.ldc2_w 260, 3) := by decide +kernel
theorem dX4_years_49 : decode cX4_years 49 = .ok (.ladd, 1) := by decide +kernel
theorem dX4_years_50 : decode cX4_years 50 = .ok (.ldc2_w 262, 3) := by decide +kernel
theorem dX4_years_53 : decode cX4_years 53 = .ok (.lrem, 1) := by decide +kernel
theorem dX4_years_54 : decode cX4_years 54 = .ok (.lstore_n 3, 1) := by decide +kernel
theorem dX4_years_55 : decode cX4_years 55 = .ok (.lload_n 3, 1) := by decide +kernel
theorem dX4_years_56 : decode cX4_years 56 = .ok (.ldc2_w 264, 3) := by decide +kernel
theorem dX4_years_59 : decode cX4_years 59 = .ok (.ldiv, 1) := by decide +kernel
theorem dX4_years_60 : decode cX4_years 60 = .ok (.ldc2_w 266, 3) := by decide +kernel
theorem dX4_years_63 : decode cX4_years 63 = .ok (.lrem, 1) := by decide +kernel
theorem dX4_years_64 : decode cX4_years 64 = .ok (.l2i, 1) := by decide +kernel
theorem dX4_years_65 : decode cX4_years 65 = .ok (.istore 6, 2) := by decide +kernel
theorem dX4_years_67 : decode cX4_years 67 = .ok (.lload_n 3, 1) := by decide +kernel
theorem dX4_years_68 : decode cX4_years 68 = .ok (.ldc2_w 268, 3) := by decide +kernel
theorem dX4_years_71 : decode cX4_years 71 = .ok (.ldiv, 1) := by decide +kernel
theorem dX4_years_72 : decode cX4_years 72 = .ok (.ldc2_w 266, 3) := by decide +kernel
theorem dX4_years_75 : decode cX4_years 75 = .ok (.lrem, 1) := by decide +kernel
theorem dX4_years_76 : decode cX4_years 76 = .ok (.l2i, 1) := by decide +kernel
theorem dX4_years_77 : decode cX4_years 77 = .ok (.istore 7, 2) := by decide +kernel
theorem dX4_years_79 : decode cX4_years 79 = .ok (.iconst 0, 1) := by decide +kernel
theorem dX4_years_80 : decode cX4_years 80 = .ok (.istore 8, 2) := by decide +kernel
theorem dX4_years_82 : decode cX4_years 82 = .ok (.iload 8, 2) := by decide +kernel
theorem dX4_years_84 : decode cX4_years 84 = .ok (.aload_n 0, 1) := by decide +kernel
theorem dX4_years_85 : decode cX4_years 85 = .ok (.getfield 73, 3) := by decide +kernel
theorem dX4_years_88 : decode cX4_years 88 = .ok (.if_icmp .ge 41, 3) := by decide +kernel
theorem dX4_years_91 : decode cX4_years 91 = .ok (.aload_n 0, 1) := by decide +kernel
theorem dX4_years_92 : decode cX4_years 92 = .ok (.getfield 22, 3) := by decide +kernel
theorem dX4_years_95 : decode cX4_years 95 = .ok (.iload 8, 2) := by decide +kernel
theorem dX4_years_97 : decode cX4_years 97 = .ok (.aload_n 0, 1) := by decide +kernel
theorem dX4_years_98 : decode cX4_years 98 = .ok (.getfield 19, 3) := by decide +kernel
theorem dX4_years_101 : decode cX4_years 101 = .ok (.iload 8, 2) := by decide +kernel
theorem dX4_years_103 : decode cX4_years 103 = .ok (.iaload, 1) := by decide +kernel
theorem dX4_years_104 : decode cX4_years 104 = .ok (.aload_n 0, 1) := by decide +kernel
theorem dX4_years_105 : decode cX4_years 105 = .ok (.getfield 22, 3) := by decide +kernel
theorem dX4_years_108 : decode cX4_years 108 = .ok (.iload 8, 2) := by decide +kernel
theorem dX4_years_110 : decode cX4_years 110 = .ok (.iaload, 1) := by decide +kernel
theorem dX4_years_111 : decode cX4_years 111 = .ok (.aload_n 0, 1) := by decide +kernel
theorem dX4_years_112 : decode cX4_years 112 = .ok (.getfield 69, 3) := by decide +kernel
theorem dX4_years_115 : decode cX4_years 115 = .ok (.iload 6, 2) := by decide +kernel
theorem dX4_years_117 : decode cX4_years 117 = .ok (.iload 7, 2) := by decide +kernel
theorem dX4_years_119 : decode cX4_years 119 = .ok (.invokestatic 174, 3) := by decide +kernel
theorem dX4_years_122 : decode cX4_years 122 = .ok (.iastore, 1) := by decide +kernel
theorem dX4_years_123 : decode cX4_years 123 = .ok (.iinc 8 1, 3) := by decide +kernel
theorem dX4_years_126 : decode cX4_years 126 = .ok (.goto (-44), 3) := by decide +kernel
theorem dX4_years_129 : decode cX4_years 129 = .ok (.aload_n 0, 1) := by decide +kernel
theorem dX4_years_130 : decode cX4_years 130 = .ok (.dup, 1) := by decide +kernel
theorem dX4_years_131 : decode cX4_years 131 = .ok (.getfield 69, 3) := by decide +kernel
theorem dX4_years_134 : decode cX4_years 134 = .ok (.iconst 1, 1) := by decide +kernel
theorem dX4_years_135 : decode cX4_years 135 = .ok (.iadd, 1) := by decide +kernel
theorem dX4_years_136 : decode cX4_years 136 = .ok (.putfield 69, 3) := by decide +kernel
theorem dX4_years_139 : decode cX4_years 139 = .ok (.iinc 5 1, 3) := by decide +kernel
theorem dX4_years_142 : decode cX4_years 142 = .ok (.goto (-107), 3) := by decide +kernel
theorem dX4_years_145 : decode cX4_years 145 = .ok (.aload_n 0, 1) := by decide +kernel
theorem dX4_years_146 : decode cX4_years 146 = .ok (.invokevirtual 197, 3) := by decide +kernel
theorem dX4_years_149 : decode cX4_years 149 = .ok (.istore 5, 2) := by decide +kernel
theorem dX4_years_151 : decode cX4_years 151 = .ok (.aload_n 0, 1) := by decide +kernel
theorem dX4_years_152 : decode cX4_years 152 = .ok (.invokevirtual 270, 3) := by decide +kernel
theorem dX4_years_155 : decode cX4_years 155 = .ok (.iload 5, 2) := by decide +kernel
theorem dX4_years_157 : decode cX4_years 157 = .ok (.ireturn, 1) := by decide +kernel
set_option maxRecDepth 20000 in
theorem ggX4_part_X4_bad : GoodIn wsX4_part wsX4_bad := goodIn_r _ [7, 8, 9, 10, 11, 12, 13, 14, 15, 16, 17, 18, 19, 20, 21, 22, 23, 24, 25, 26, 27, 28, 29, 30, 31, 32, 33, 34, 35, 36, 37, 38] (by decide +kernel) (by decide +kernel)
set_option maxRecDepth 20000 in
theorem gX4_part_X4_bad : GoodIn wsX4_part (wsV RX4 89 RX4 yX4_bad wsX4_bad) := goodIn_app (goodIn_of _ (by decide +kernel)) ggX4_part_X4_bad
theorem dX4_part_0 : decode cX4_part 0 = .ok (.iload_n 1, 1) := by decide +kernel
theorem dX4_part_1 : decode cX4_part 1 = .ok (.ifCond .ne 10, 3) := by decide +kernel
theorem dX4_part_4 : decode cX4_part 4 = .ok (.aload_n 0, 1) := by decide +kernel
theorem dX4_part_5 : decode cX4_part 5 = .ok (.getfield 245, 3) := by decide +kernel
theorem dX4_part_8 : decode cX4_part 8 = .ok (.goto 20, 3) := by decide +kernel
theorem dX4_part_11 : decode cX4_part 11 = .ok (.iload_n 1, 1) := by decide +kernel
theorem dX4_part_12 : decode cX4_part 12 = .ok (.iconst 1, 1) := by decide +kernel
theorem dX4_part_13 : decode cX4_part 13 = .ok (.if_icmp .ne 10, 3) := by decide +kernel
theorem dX4_part_16 : decode cX4_part 16 = .ok (.aload_n 0, 1) := by decide +kernel
theorem dX4_part_17 : decode cX4_part 17 = .ok (.getfield 55, 3) := by decide +kernel
theorem dX4_part_20 : decode cX4_part 20 = .ok (.goto 8, 3) := by decide +kernel
theorem dX4_part_23 : decode cX4_part 23 = .ok (.aload_n 0, 1) := by decide +kernel
theorem dX4_part_24 : decode cX4_part 24 = .ok (.invokevirtual 89, 3) := by decide +kernel
theorem dX4_part_27 : decode cX4_part 27 = .ok (.i2l, 1) := by decide +kernel
theorem dX4_part_28 : decode cX4_part 28 = .ok (.lreturn, 1) := by decide +kernel
set_option maxRecDepth 20000 in
theorem ggX4_image_X4_in : GoodIn wsX4_image wsX4_in := goodIn_r _ [18] (by decide +kernel) (by decide +kernel)
set_option maxRecDepth 20000 in
theorem gX4_image_X4_in : GoodIn wsX4_image (va_wsS RX4 85 yX4_in wsX4_in) := goodIn_app (goodIn_of _ (by decide +kernel)) ggX4_image_X4_in
set_option maxRecDepth 20000 in
theorem ggX4_image_X4_bad : GoodIn wsX4_image wsX4_bad := goodIn_r _ [22, 23, 31, 32, 33, 34, 35, 36, 37, 38, 39, 40, 41, 42, 43, 44, 45, 46, 47, 48, 49, 50, 51, 52, 53, 54, 55, 56, 57, 58, 59, 60] (by decide +kernel) (by decide +kernel)
set_option maxRecDepth 20000 in
theorem gX4_image_X4_bad : GoodIn wsX4_image (wsV RX4 89 RX4 yX4_bad wsX4_bad) := goodIn_app (goodIn_of _ (by decide +kernel)) ggX4_image_X4_bad
set_option maxRecDepth 20000 in
theorem ggX4_image_X4_lays : GoodIn wsX4_image wsX4_lays := goodIn_r _ [27, 28, 29, 30, 31, 32, 33, 34, 35, 36, 37, 38, 39, 40, 41, 42, 43, 44, 45, 46, 47, 48, 49, 50, 51, 52, 53, 54, 55, 56, 57, 58, 59, 60] (by decide +kernel) (by decide +kernel)
set_option maxRecDepth 20000 in
theorem gX4_image_X4_lays : GoodIn wsX4_image (wsV RX4 184 RX4 yX4_lays wsX4_lays) := goodIn_app (goodIn_of _ (by decide +kernel)) ggX4_image_X4_lays
theorem dX4_image_0 : decode cX4_image 0 = .ok (.iload_n 1, 1) := by decide +kernel
theorem dX4_image_1 : decode cX4_image 1 = .ok (.iconst 0, 1) := by decide +kernel
theorem dX4_image_2 : decode cX4_image 2 = .ok (.iconst 1, 1) := by decide +kernel
theorem dX4_image_3 : decode cX4_image 3 = .ok (.invokestatic 85, 3) := by decide +kernel
theorem dX4_image_6 : decode cX4_image 6 = .ok (.ifCond .ne 8, 3) := by decide +kernel
theorem dX4_image_9 : decode cX4_image 9 = .ok (.aload_n 0, 1) := by decide +kernel
theorem dX4_image_10 : decode cX4_image 10 = .ok (.invokevirtual 89, 3) := by decide +kernel
theorem dX4_image_13 : decode cX4_image 13 = .ok (.ireturn, 1) := by decide +kernel
theorem dX4_image_14 : decode cX4_image 14 = .ok (.sipush 200, 3) := by decide +kernel
theorem dX4_image_17 : decode cX4_image 17 = .ok (.iload_n 1, 1) := by decide +kernel
theorem dX4_image_18 : decode cX4_image 18 = .ok (.imul, 1) := by decide +kernel
theorem dX4_image_19 : decode cX4_image 19 = .ok (.istore_n 2, 1) := by decide +kernel
theorem dX4_image_20 : decode cX4_image 20 = .ok (.aload_n 0, 1) := by decide +kernel
theorem dX4_image_21 : decode cX4_image 21 = .ok (.getfield 62, 3) := by decide +kernel
theorem dX4_image_24 : decode cX4_image 24 = .ok (.iload_n 1, 1) := by decide +kernel
theorem dX4_image_25 : decode cX4_image 25 = .ok (.iconst 1, 1) := by decide +kernel
theorem dX4_image_26 : decode cX4_image 26 = .ok (.iastore, 1) := by decide +kernel
theorem dX4_image_27 : decode cX4_image 27 = .ok (.aload_n 0, 1) := by decide +kernel
theorem dX4_image_28 : decode cX4_image 28 = .ok (.getfield 59, 3) := by decide +kernel
theorem dX4_image_31 : decode cX4_image 31 = .ok (.iload_n 2, 1) := by decide +kernel
theorem dX4_image_32 : decode cX4_image 32 = .ok (.aload_n 0, 1) := by decide +kernel
theorem dX4_image_33 : decode cX4_image 33 = .ok (.getfield 73, 3) := by decide +kernel
theorem dX4_image_36 : decode cX4_image 36 = .ok (.iastore, 1) := by decide +kernel
theorem dX4_image_37 : decode cX4_image 37 = .ok (.aload_n 0, 1) := by decide +kernel
theorem dX4_image_38 : decode cX4_image 38 = .ok (.getfield 59, 3) := by decide +kernel
theorem dX4_image_41 : decode cX4_image 41 = .ok (.iload_n 2, 1) := by decide +kernel
theorem dX4_image_42 : decode cX4_image 42 = .ok (.iconst 1, 1) := by decide +kernel
theorem dX4_image_43 : decode cX4_image 43 = .ok (.iadd, 1) := by decide +kernel
theorem dX4_image_44 : decode cX4_image 44 = .ok (.aload_n 0, 1) := by decide +kernel
theorem dX4_image_45 : decode cX4_image 45 = .ok (.getfield 76, 3) := by decide +kernel
theorem dX4_image_48 : decode cX4_image 48 = .ok (.iastore, 1) := by decide +kernel
theorem dX4_image_49 : decode cX4_image 49 = .ok (.aload_n 0, 1) := by decide +kernel
theorem dX4_image_50 : decode cX4_image 50 = .ok (.getfield 59, 3) := by decide +kernel
theorem dX4_image_53 : decode cX4_image 53 = .ok (.iload_n 2, 1) := by decide +kernel
theorem dX4_image_54 : decode cX4_image 54 = .ok (.iconst 2, 1) := by decide +kernel
theorem dX4_image_55 : decode cX4_image 55 = .ok (.iadd, 1) := by decide +kernel
theorem dX4_image_56 : decode cX4_image 56 = .ok (.aload_n 0, 1) := by decide +kernel
theorem dX4_image_57 : decode cX4_image 57 = .ok (.getfield 79, 3) := by decide +kernel
theorem dX4_image_60 : decode cX4_image 60 = .ok (.iastore, 1) := by decide +kernel
theorem dX4_image_61 : decode cX4_image 61 = .ok (.aload_n 0, 1) := by decide +kernel
theorem dX4_image_62 : decode cX4_image 62 = .ok (.getfield 59, 3) := by decide +kernel
theorem dX4_image_65 : decode cX4_image 65 = .ok (.iload_n 2, 1) := by decide +kernel
theorem dX4_image_66 : decode cX4_image 66 = .ok (.iconst 3, 1) := by decide +kernel
theorem dX4_image_67 : decode cX4_image 67 = .ok (.iadd, 1) := by decide +kernel
theorem dX4_image_68 : decode cX4_image 68 = .ok (.aload_n 0, 1) := by decide +kernel
theorem dX4_image_69 : decode cX4_image 69 = .ok (.getfield 82, 3) := by decide +kernel
theorem dX4_image_72 : decode cX4_image 72 = .ok (.iastore, 1) := by decide +kernel
theorem dX4_image_73 : decode cX4_image 73 = .ok (.aload_n 0, 1) := by decide +kernel
theorem dX4_image_74 : decode cX4_image 74 = .ok (.aload_n 0, 1) := by decide +kernel
theorem dX4_image_75 : decode cX4_image 75 = .ok (.getfield 59, 3) := by decide +kernel
theorem dX4_image_78 : decode cX4_image 78 = .ok (.iload_n 2, 1) := by decide +kernel
theorem dX4_image_79 : decode cX4_image 79 = .ok (.iconst 4, 1) := by decide +kernel
theorem dX4_image_80 : decode cX4_image 80 = .ok (.iadd, 1) := by decide +kernel
theorem dX4_image_81 : decode cX4_image 81 = .ok (.invokevirtual 184, 3) := by decide +kernel
theorem dX4_image_84 : decode cX4_image 84 = .ok (.iconst 0, 1) := by decide +kernel
theorem dX4_image_85 : decode cX4_image 85 = .ok (.istore_n 3, 1) := by decide +kernel
theorem dX4_image_86 : decode cX4_image 86 = .ok (.iload_n 3, 1) := by decide +kernel
theorem dX4_image_87 : decode cX4_image 87 = .ok (.bipush 12, 2) := by decide +kernel
theorem dX4_image_89 : decode cX4_image 89 = .ok (.if_icmp .ge 43, 3) := by decide +kernel
theorem dX4_image_92 : decode cX4_image 92 = .ok (.aload_n 0, 1) := by decide +kernel
theorem dX4_image_93 : decode cX4_image 93 = .ok (.getfield 59, 3) := by decide +kernel
theorem dX4_image_96 : decode cX4_image 96 = .ok (.iload_n 2, 1) := by decide +kernel
theorem dX4_image_97 : decode cX4_image 97 = .ok (.bipush 15, 2) := by decide +kernel
theorem dX4_image_99 : decode cX4_image 99 = .ok (.iadd, 1) := by decide +kernel
theorem dX4_image_100 : decode cX4_image 100 = .ok (.iload_n 3, 1) := by decide +kernel
theorem dX4_image_101 : decode cX4_image 101 = .ok (.iadd, 1) := by decide +kernel
theorem dX4_image_102 : decode cX4_image 102 = .ok (.aload_n 0, 1) := by decide +kernel
theorem dX4_image_103 : decode cX4_image 103 = .ok (.getfield 13, 3) := by decide +kernel
theorem dX4_image_106 : decode cX4_image 106 = .ok (.iload_n 3, 1) := by decide +kernel
theorem dX4_image_107 : decode cX4_image 107 = .ok (.iaload, 1) := by decide +kernel
theorem dX4_image_108 : decode cX4_image 108 = .ok (.iastore, 1) := by decide +kernel
theorem dX4_image_109 : decode cX4_image 109 = .ok (.aload_n 0, 1) := by decide +kernel
theorem dX4_image_110 : decode cX4_image 110 = .ok (.getfield 59, 3) := by decide +kernel
theorem dX4_image_113 : decode cX4_image 113 = .ok (.iload_n 2, 1) := by decide +kernel
theorem dX4_image_114 : decode cX4_image 114 = .ok (.bipush 27, 2) := by decide +kernel
theorem dX4_image_116 : decode cX4_image 116 = .ok (.iadd, 1) := by decide +kernel
theorem dX4_image_117 : decode cX4_image 117 = .ok (.iload_n 3, 1) := by decide +kernel
theorem dX4_image_118 : decode cX4_image 118 = .ok (.iadd, 1) := by decide +kernel
theorem dX4_image_119 : decode cX4_image 119 = .ok (.aload_n 0, 1) := by decide +kernel
theorem dX4_image_120 : decode cX4_image 120 = .ok (.getfield 16, 3) := by decide +kernel
theorem dX4_image_123 : decode cX4_image 123 = .ok (.iload_n 3, 1) := by decide +kernel
theorem dX4_image_124 : decode cX4_image 124 = .ok (.iaload, 1) := by decide +kernel
theorem dX4_image_125 : decode cX4_image 125 = .ok (.iastore, 1) := by decide +kernel
theorem dX4_image_126 : decode cX4_image 126 = .ok (.iinc 3 1, 3) := by decide +kernel
theorem dX4_image_129 : decode cX4_image 129 = .ok (.goto (-43), 3) := by decide +kernel
theorem dX4_image_132 : decode cX4_image 132 = .ok (.iconst 0, 1) := by decide +kernel
theorem dX4_image_133 : decode cX4_image 133 = .ok (.istore_n 3, 1) := by decide +kernel
theorem dX4_image_134 : decode cX4_image 134 = .ok (.iload_n 3, 1) := by decide +kernel
theorem dX4_image_135 : decode cX4_image 135 = .ok (.iconst 5, 1) := by decide +kernel
theorem dX4_image_136 : decode cX4_image 136 = .ok (.if_icmp .ge 26, 3) := by decide +kernel
theorem dX4_image_139 : decode cX4_image 139 = .ok (.aload_n 0, 1) := by decide +kernel
theorem dX4_image_140 : decode cX4_image 140 = .ok (.getfield 59, 3) := by decide +kernel
theorem dX4_image_143 : decode cX4_image 143 = .ok (.iload_n 2, 1) := by decide +kernel
theorem dX4_image_144 : decode cX4_image 144 = .ok (.bipush 39, 2) := by decide +kernel
theorem dX4_image_146 : decode cX4_image 146 = .ok (.iadd, 1) := by decide +kernel
theorem dX4_image_147 : decode cX4_image 147 = .ok (.iload_n 3, 1) := by decide +kernel
theorem dX4_image_148 : decode cX4_image 148 = .ok (.iadd, 1) := by decide +kernel
theorem dX4_image_149 : decode cX4_image 149 = .ok (.aload_n 0, 1) := by decide +kernel
theorem dX4_image_150 : decode cX4_image 150 = .ok (.getfield 19, 3) := by decide +kernel
theorem dX4_image_153 : decode cX4_image 153 = .ok (.iload_n 3, 1) := by decide +kernel
theorem dX4_image_154 : decode cX4_image 154 = .ok (.iaload, 1) := by decide +kernel
theorem dX4_image_155 : decode cX4_image 155 = .ok (.iastore, 1) := by decide +kernel
theorem dX4_image_156 : decode cX4_image 156 = .ok (.iinc 3 1, 3) := by decide +kernel
theorem dX4_image_159 : decode cX4_image 159 = .ok (.goto (-25), 3) := by decide +kernel
theorem dX4_image_162 : decode cX4_image 162 = .ok (.iconst 0, 1) := by decide +kernel
theorem dX4_image_163 : decode cX4_image 163 = .ok (.istore_n 3, 1) := by decide +kernel
theorem dX4_image_164 : decode cX4_image 164 = .ok (.iload_n 3, 1) := by decide +kernel
theorem dX4_image_165 : decode cX4_image 165 = .ok (.iconst 4, 1) := by decide +kernel
theorem dX4_image_166 : decode cX4_image 166 = .ok (.if_icmp .ge 60, 3) := by decide +kernel
theorem dX4_image_169 : decode cX4_image 169 = .ok (.aload_n 0, 1) := by decide +kernel
theorem dX4_image_170 : decode cX4_image 170 = .ok (.getfield 59, 3) := by decide +kernel
theorem dX4_image_173 : decode cX4_image 173 = .ok (.iload_n 2, 1) := by decide +kernel
theorem dX4_image_174 : decode cX4_image 174 = .ok (.bipush 44, 2) := by decide +kernel
theorem dX4_image_176 : decode cX4_image 176 = .ok (.iadd, 1) := by decide +kernel
theorem dX4_image_177 : decode cX4_image 177 = .ok (.iload_n 3, 1) := by decide +kernel
theorem dX4_image_178 : decode cX4_image 178 = .ok (.iadd, 1) := by decide +kernel
theorem dX4_image_179 : decode cX4_image 179 = .ok (.aload_n 0, 1) := by decide +kernel
theorem dX4_image_180 : decode cX4_image 180 = .ok (.getfield 28, 3) := by decide +kernel
theorem dX4_image_183 : decode cX4_image 183 = .ok (.iload_n 3, 1) := by decide +kernel
theorem dX4_image_184 : decode cX4_image 184 = .ok (.iaload, 1) := by decide +kernel
theorem dX4_image_185 : decode cX4_image 185 = .ok (.iastore, 1) := by decide +kernel
theorem dX4_image_186 : decode cX4_image 186 = .ok (.aload_n 0, 1) := by decide +kernel
theorem dX4_image_187 : decode cX4_image 187 = .ok (.getfield 59, 3) := by decide +kernel
theorem dX4_image_190 : decode cX4_image 190 = .ok (.iload_n 2, 1) := by decide +kernel
theorem dX4_image_191 : decode cX4_image 191 = .ok (.bipush 48, 2) := by decide +kernel
theorem dX4_image_193 : decode cX4_image 193 = .ok (.iadd, 1) := by decide +kernel
theorem dX4_image_194 : decode cX4_image 194 = .ok (.iload_n 3, 1) := by decide +kernel
theorem dX4_image_195 : decode cX4_image 195 = .ok (.iadd, 1) := by decide +kernel
theorem dX4_image_196 : decode cX4_image 196 = .ok (.aload_n 0, 1) := by decide +kernel
theorem dX4_image_197 : decode cX4_image 197 = .ok (.getfield 31, 3) := by decide +kernel
theorem dX4_image_200 : decode cX4_image 200 = .ok (.iload_n 3, 1) := by decide +kernel
theorem dX4_image_201 : decode cX4_image 201 = .ok (.iaload, 1) := by decide +kernel
theorem dX4_image_202 : decode cX4_image 202 = .ok (.iastore, 1) := by decide +kernel
theorem dX4_image_203 : decode cX4_image 203 = .ok (.aload_n 0, 1) := by decide +kernel
theorem dX4_image_204 : decode cX4_image 204 = .ok (.getfield 59, 3) := by decide +kernel
theorem dX4_image_207 : decode cX4_image 207 = .ok (.iload_n 2, 1) := by decide +kernel
theorem dX4_image_208 : decode cX4_image 208 = .ok (.bipush 52, 2) := by decide +kernel
theorem dX4_image_210 : decode cX4_image 210 = .ok (.iadd, 1) := by decide +kernel
theorem dX4_image_211 : decode cX4_image 211 = .ok (.iload_n 3, 1) := by decide +kernel
theorem dX4_image_212 : decode cX4_image 212 = .ok (.iadd, 1) := by decide +kernel
theorem dX4_image_213 : decode cX4_image 213 = .ok (.aload_n 0, 1) := by decide +kernel
theorem dX4_image_214 : decode cX4_image 214 = .ok (.getfield 34, 3) := by decide +kernel
theorem dX4_image_217 : decode cX4_image 217 = .ok (.iload_n 3, 1) := by decide +kernel
theorem dX4_image_218 : decode cX4_image 218 = .ok (.iaload, 1) := by decide +kernel
theorem dX4_image_219 : decode cX4_image 219 = .ok (.iastore, 1) := by decide +kernel
theorem dX4_image_220 : decode cX4_image 220 = .ok (.iinc 3 1, 3) := by decide +kernel
theorem dX4_image_223 : decode cX4_image 223 = .ok (.goto (-59), 3) := by decide +kernel
theorem dX4_image_226 : decode cX4_image 226 = .ok (.iconst 0, 1) := by decide +kernel
theorem dX4_image_227 : decode cX4_image 227 = .ok (.istore_n 3, 1) := by decide +kernel
theorem dX4_image_228 : decode cX4_image 228 = .ok (.iload_n 3, 1) := by decide +kernel
theorem dX4_image_229 : decode cX4_image 229 = .ok (.bipush 42, 2) := by decide +kernel
theorem dX4_image_231 : decode cX4_image 231 = .ok (.if_icmp .ge 26, 3) := by decide +kernel
theorem dX4_image_234 : decode cX4_image 234 = .ok (.aload_n 0, 1) := by decide +kernel
theorem dX4_image_235 : decode cX4_image 235 = .ok (.getfield 59, 3) := by decide +kernel
theorem dX4_image_238 : decode cX4_image 238 = .ok (.iload_n 2, 1) := by decide +kernel
theorem dX4_image_239 : decode cX4_image 239 = .ok (.bipush 56, 2) := by decide +kernel
theorem dX4_image_241 : decode cX4_image 241 = .ok (.iadd, 1) := by decide +kernel
theorem dX4_image_242 : decode cX4_image 242 = .ok (.iload_n 3, 1) := by decide +kernel
theorem dX4_image_243 : decode cX4_image 243 = .ok (.iadd, 1) := by decide +kernel
theorem dX4_image_244 : decode cX4_image 244 = .ok (.aload_n 0, 1) := by decide +kernel
theorem dX4_image_245 : decode cX4_image 245 = .ok (.getfield 37, 3) := by decide +kernel
theorem dX4_image_248 : decode cX4_image 248 = .ok (.iload_n 3, 1) := by decide +kernel
theorem dX4_image_249 : decode cX4_image 249 = .ok (.iaload, 1) := by decide +kernel
theorem dX4_image_250 : decode cX4_image 250 = .ok (.iastore, 1) := by decide +kernel
theorem dX4_image_251 : decode cX4_image 251 = .ok (.iinc 3 1, 3) := by decide +kernel
theorem dX4_image_254 : decode cX4_image 254 = .ok (.goto (-26), 3) := by decide +kernel
theorem dX4_image_257 : decode cX4_image 257 = .ok (.iconst 0, 1) := by decide +kernel
theorem dX4_image_258 : decode cX4_image 258 = .ok (.istore_n 3, 1) := by decide +kernel
theorem dX4_image_259 : decode cX4_image 259 = .ok (.iload_n 3, 1) := by decide +kernel
theorem dX4_image_260 : decode cX4_image 260 = .ok (.bipush 88, 2) := by decide +kernel
theorem dX4_image_262 : decode cX4_image 262 = .ok (.if_icmp .ge 26, 3) := by decide +kernel
theorem dX4_image_265 : decode cX4_image 265 = .ok (.aload_n 0, 1) := by decide +kernel
theorem dX4_image_266 : decode cX4_image 266 = .ok (.getfield 59, 3) := by decide +kernel
theorem dX4_image_269 : decode cX4_image 269 = .ok (.iload_n 2, 1) := by decide +kernel
theorem dX4_image_270 : decode cX4_image 270 = .ok (.bipush 98, 2) := by decide +kernel
theorem dX4_image_272 : decode cX4_image 272 = .ok (.iadd, 1) := by decide +kernel
theorem dX4_image_273 : decode cX4_image 273 = .ok (.iload_n 3, 1) := by decide +kernel
theorem dX4_image_274 : decode cX4_image 274 = .ok (.iadd, 1) := by decide +kernel
theorem dX4_image_275 : decode cX4_image 275 = .ok (.aload_n 0, 1) := by decide +kernel
theorem dX4_image_276 : decode cX4_image 276 = .ok (.getfield 49, 3) := by decide +kernel
theorem dX4_image_279 : decode cX4_image 279 = .ok (.iload_n 3, 1) := by decide +kernel
theorem dX4_image_280 : decode cX4_image 280 = .ok (.iaload, 1) := by decide +kernel
theorem dX4_image_281 : decode cX4_image 281 = .ok (.iastore, 1) := by decide +kernel
theorem dX4_image_282 : decode cX4_image 282 = .ok (.iinc 3 1, 3) := by decide +kernel
theorem dX4_image_285 : decode cX4_image 285 = .ok (.goto (-26), 3) := by decide +kernel
theorem dX4_image_288 : decode cX4_image 288 = .ok (.iconst 1, 1) := by decide +kernel
theorem dX4_image_289 : decode cX4_image 289 = .ok (.ireturn, 1) := by decide +kernel
set_option maxRecDepth 20000 in
theorem ggX4_from_X4_in : GoodIn wsX4_from wsX4_in := goodIn_r _ [18] (by decide +kernel) (by decide +kernel)
set_option maxRecDepth 20000 in
theorem gX4_from_X4_in : GoodIn wsX4_from (va_wsS RX4 85 yX4_in wsX4_in) := goodIn_app (goodIn_of _ (by decide +kernel)) ggX4_from_X4_in
set_option maxRecDepth 20000 in
theorem ggX4_from_X4_bad : GoodIn wsX4_from wsX4_bad := goodIn_r _ [22, 23, 35, 36, 37, 38, 39, 40, 41, 42, 43, 44, 45, 46, 47, 48, 49, 50, 51, 52, 53, 54, 55, 56, 57, 58, 59, 60, 61, 62, 63, 64] (by decide +kernel) (by decide +kernel)
set_option maxRecDepth 20000 in
theorem gX4_from_X4_bad : GoodIn wsX4_from (wsV RX4 89 RX4 yX4_bad wsX4_bad) := goodIn_app (goodIn_of _ (by decide +kernel)) ggX4_from_X4_bad
set_option maxRecDepth 20000 in
theorem ggX4_from_X4_no : GoodIn wsX4_from wsX4_no := goodIn_r _ [27, 23, 35, 36, 37, 38, 39, 40, 41, 42, 43, 44, 45, 46, 47, 48, 49, 50, 51, 52, 53, 54, 55, 56, 57, 58, 59, 60, 61, 62, 63, 64] (by decide +kernel) (by decide +kernel)
set_option maxRecDepth 20000 in
theorem gX4_from_X4_no : GoodIn wsX4_from (wsV RX4 206 RX4 yX4_no wsX4_no) := goodIn_app (goodIn_of _ (by decide +kernel)) ggX4_from_X4_no
set_option maxRecDepth 20000 in
theorem ggX4_from_X4_takes : GoodIn wsX4_from wsX4_takes := goodIn_r _ [31, 32, 33, 34, 35, 36, 37, 38, 39, 40, 41, 42, 43, 44, 45, 46, 47, 48, 49, 50, 51, 52, 53, 54, 55, 56, 57, 58, 59, 60, 61, 62, 63, 64] (by decide +kernel) (by decide +kernel)
set_option maxRecDepth 20000 in
theorem gX4_from_X4_takes : GoodIn wsX4_from (wsV RX4 188 RX4 yX4_takes wsX4_takes) := goodIn_app (goodIn_of _ (by decide +kernel)) ggX4_from_X4_takes
theorem dX4_from_0 : decode cX4_from 0 = .ok (.iload_n 1, 1) := by decide +kernel
theorem dX4_from_1 : decode cX4_from 1 = .ok (.iconst 0, 1) := by decide +kernel
theorem dX4_from_2 : decode cX4_from 2 = .ok (.iconst 1, 1) := by decide +kernel
theorem dX4_from_3 : decode cX4_from 3 = .ok (.invokestatic 85, 3) := by decide +kernel
theorem dX4_from_6 : decode cX4_from 6 = .ok (.ifCond .ne 8, 3) := by decide +kernel
theorem dX4_from_9 : decode cX4_from 9 = .ok (.aload_n 0, 1) := by decide +kernel
theorem dX4_from_10 : decode cX4_from 10 = .ok (.invokevirtual 89, 3) := by decide +kernel
theorem dX4_from_13 : decode cX4_from 13 = .ok (.ireturn, 1) := by decide +kernel
theorem dX4_from_14 : decode cX4_from 14 = .ok (.aload_n 0, 1) := by decide +kernel
theorem dX4_from_15 : decode cX4_from 15 = .ok (.getfield 62, 3) := by decide +kernel
theorem dX4_from_18 : decode cX4_from 18 = .ok (.iload_n 1, 1) := by decide +kernel
theorem dX4_from_19 : decode cX4_from 19 = .ok (.iaload, 1) := by decide +kernel
theorem dX4_from_20 : decode cX4_from 20 = .ok (.ifCond .ne 8, 3) := by decide +kernel
theorem dX4_from_23 : decode cX4_from 23 = .ok (.aload_n 0, 1) := by decide +kernel
theorem dX4_from_24 : decode cX4_from 24 = .ok (.invokevirtual 206, 3) := by decide +kernel
theorem dX4_from_27 : decode cX4_from 27 = .ok (.ireturn, 1) := by decide +kernel
theorem dX4_from_28 : decode cX4_from 28 = .ok (.sipush 200, 3) := by decide +kernel
theorem dX4_from_31 : decode cX4_from 31 = .ok (.iload_n 1, 1) := by decide +kernel
theorem dX4_from_32 : decode cX4_from 32 = .ok (.imul, 1) := by decide +kernel
theorem dX4_from_33 : decode cX4_from 33 = .ok (.istore_n 2, 1) := by decide +kernel
theorem dX4_from_34 : decode cX4_from 34 = .ok (.aload_n 0, 1) := by decide +kernel
theorem dX4_from_35 : decode cX4_from 35 = .ok (.aload_n 0, 1) := by decide +kernel
theorem dX4_from_36 : decode cX4_from 36 = .ok (.getfield 59, 3) := by decide +kernel
theorem dX4_from_39 : decode cX4_from 39 = .ok (.iload_n 2, 1) := by decide +kernel
theorem dX4_from_40 : decode cX4_from 40 = .ok (.iaload, 1) := by decide +kernel
theorem dX4_from_41 : decode cX4_from 41 = .ok (.putfield 73, 3) := by decide +kernel
theorem dX4_from_44 : decode cX4_from 44 = .ok (.aload_n 0, 1) := by decide +kernel
theorem dX4_from_45 : decode cX4_from 45 = .ok (.aload_n 0, 1) := by decide +kernel
theorem dX4_from_46 : decode cX4_from 46 = .ok (.getfield 59, 3) := by decide +kernel
theorem dX4_from_49 : decode cX4_from 49 = .ok (.iload_n 2, 1) := by decide +kernel
theorem dX4_from_50 : decode cX4_from 50 = .ok (.iconst 1, 1) := by decide +kernel
theorem dX4_from_51 : decode cX4_from 51 = .ok (.iadd, 1) := by decide +kernel
theorem dX4_from_52 : decode cX4_from 52 = .ok (.iaload, 1) := by decide +kernel
theorem dX4_from_53 : decode cX4_from 53 = .ok (.putfield 76, 3) := by decide +kernel
theorem dX4_from_56 : decode cX4_from 56 = .ok (.aload_n 0, 1) := by decide +kernel
theorem dX4_from_57 : decode cX4_from 57 = .ok (.aload_n 0, 1) := by decide +kernel
theorem dX4_from_58 : decode cX4_from 58 = .ok (.getfield 59, 3) := by decide +kernel
theorem dX4_from_61 : decode cX4_from 61 = .ok (.iload_n 2, 1) := by decide +kernel
theorem dX4_from_62 : decode cX4_from 62 = .ok (.iconst 2, 1) := by decide +kernel
theorem dX4_from_63 : decode cX4_from 63 = .ok (.iadd, 1) := by decide +kernel
theorem dX4_from_64 : decode cX4_from 64 = .ok (.iaload, 1) := by decide +kernel
theorem dX4_from_65 : decode cX4_from 65 = .ok (.putfield 79, 3) := by decide +kernel
theorem dX4_from_68 : decode cX4_from 68 = .ok (.aload_n 0, 1) := by decide +kernel
theorem dX4_from_69 : decode cX4_from 69 = .ok (.aload_n 0, 1) := by decide +kernel
theorem dX4_from_70 : decode cX4_from 70 = .ok (.getfield 59, 3) := by decide +kernel
theorem dX4_from_73 : decode cX4_from 73 = .ok (.iload_n 2, 1) := by decide +kernel
theorem dX4_from_74 : decode cX4_from 74 = .ok (.iconst 3, 1) := by decide +kernel
theorem dX4_from_75 : decode cX4_from 75 = .ok (.iadd, 1) := by decide +kernel
theorem dX4_from_76 : decode cX4_from 76 = .ok (.iaload, 1) := by decide +kernel
theorem dX4_from_77 : decode cX4_from 77 = .ok (.putfield 82, 3) := by decide +kernel
theorem dX4_from_80 : decode cX4_from 80 = .ok (.aload_n 0, 1) := by decide +kernel
theorem dX4_from_81 : decode cX4_from 81 = .ok (.aload_n 0, 1) := by decide +kernel
theorem dX4_from_82 : decode cX4_from 82 = .ok (.getfield 59, 3) := by decide +kernel
theorem dX4_from_85 : decode cX4_from 85 = .ok (.iload_n 2, 1) := by decide +kernel
theorem dX4_from_86 : decode cX4_from 86 = .ok (.iconst 4, 1) := by decide +kernel
theorem dX4_from_87 : decode cX4_from 87 = .ok (.iadd, 1) := by decide +kernel
theorem dX4_from_88 : decode cX4_from 88 = .ok (.invokevirtual 188, 3) := by decide +kernel
theorem dX4_from_91 : decode cX4_from 91 = .ok (.iconst 0, 1) := by decide +kernel
theorem dX4_from_92 : decode cX4_from 92 = .ok (.istore_n 3, 1) := by decide +kernel
theorem dX4_from_93 : decode cX4_from 93 = .ok (.iload_n 3, 1) := by decide +kernel
theorem dX4_from_94 : decode cX4_from 94 = .ok (.bipush 12, 2) := by decide +kernel
theorem dX4_from_96 : decode cX4_from 96 = .ok (.if_icmp .ge 43, 3) := by decide +kernel
theorem dX4_from_99 : decode cX4_from 99 = .ok (.aload_n 0, 1) := by decide +kernel
theorem dX4_from_100 : decode cX4_from 100 = .ok (.getfield 13, 3) := by decide +kernel
theorem dX4_from_103 : decode cX4_from 103 = .ok (.iload_n 3, 1) := by decide +kernel
theorem dX4_from_104 : decode cX4_from 104 = .ok (.aload_n 0, 1) := by decide +kernel
theorem dX4_from_105 : decode cX4_from 105 = .ok (.getfield 59, 3) := by decide +kernel
theorem dX4_from_108 : decode cX4_from 108 = .ok (.iload_n 2, 1) := by decide +kernel
theorem dX4_from_109 : decode cX4_from 109 = .ok (.bipush 15, 2) := by decide +kernel
theorem dX4_from_111 : decode cX4_from 111 = .ok (.iadd, 1) := by decide +kernel
theorem dX4_from_112 : decode cX4_from 112 = .ok (.iload_n 3, 1) := by decide +kernel
theorem dX4_from_113 : decode cX4_from 113 = .ok (.iadd, 1) := by decide +kernel
theorem dX4_from_114 : decode cX4_from 114 = .ok (.iaload, 1) := by decide +kernel
theorem dX4_from_115 : decode cX4_from 115 = .ok (.iastore, 1) := by decide +kernel
theorem dX4_from_116 : decode cX4_from 116 = .ok (.aload_n 0, 1) := by decide +kernel
theorem dX4_from_117 : decode cX4_from 117 = .ok (.getfield 16, 3) := by decide +kernel
theorem dX4_from_120 : decode cX4_from 120 = .ok (.iload_n 3, 1) := by decide +kernel
theorem dX4_from_121 : decode cX4_from 121 = .ok (.aload_n 0, 1) := by decide +kernel
theorem dX4_from_122 : decode cX4_from 122 = .ok (.getfield 59, 3) := by decide +kernel
theorem dX4_from_125 : decode cX4_from 125 = .ok (.iload_n 2, 1) := by decide +kernel
theorem dX4_from_126 : decode cX4_from 126 = .ok (.bipush 27, 2) := by decide +kernel
theorem dX4_from_128 : decode cX4_from 128 = .ok (.iadd, 1) := by decide +kernel
theorem dX4_from_129 : decode cX4_from 129 = .ok (.iload_n 3, 1) := by decide +kernel
theorem dX4_from_130 : decode cX4_from 130 = .ok (.iadd, 1) := by decide +kernel
theorem dX4_from_131 : decode cX4_from 131 = .ok (.iaload, 1) := by decide +kernel
theorem dX4_from_132 : decode cX4_from 132 = .ok (.iastore, 1) := by decide +kernel
theorem dX4_from_133 : decode cX4_from 133 = .ok (.iinc 3 1, 3) := by decide +kernel
theorem dX4_from_136 : decode cX4_from 136 = .ok (.goto (-43), 3) := by decide +kernel
theorem dX4_from_139 : decode cX4_from 139 = .ok (.iconst 0, 1) := by decide +kernel
theorem dX4_from_140 : decode cX4_from 140 = .ok (.istore_n 3, 1) := by decide +kernel
theorem dX4_from_141 : decode cX4_from 141 = .ok (.iload_n 3, 1) := by decide +kernel
theorem dX4_from_142 : decode cX4_from 142 = .ok (.iconst 5, 1) := by decide +kernel
theorem dX4_from_143 : decode cX4_from 143 = .ok (.if_icmp .ge 26, 3) := by decide +kernel
theorem dX4_from_146 : decode cX4_from 146 = .ok (.aload_n 0, 1) := by decide +kernel
theorem dX4_from_147 : decode cX4_from 147 = .ok (.getfield 19, 3) := by decide +kernel
theorem dX4_from_150 : decode cX4_from 150 = .ok (.iload_n 3, 1) := by decide +kernel
theorem dX4_from_151 : decode cX4_from 151 = .ok (.aload_n 0, 1) := by decide +kernel
theorem dX4_from_152 : decode cX4_from 152 = .ok (.getfield 59, 3) := by decide +kernel
theorem dX4_from_155 : decode cX4_from 155 = .ok (.iload_n 2, 1) := by decide +kernel
theorem dX4_from_156 : decode cX4_from 156 = .ok (.bipush 39, 2) := by decide +kernel
theorem dX4_from_158 : decode cX4_from 158 = .ok (.iadd, 1) := by decide +kernel
theorem dX4_from_159 : decode cX4_from 159 = .ok (.iload_n 3, 1) := by decide +kernel
theorem dX4_from_160 : decode cX4_from 160 = .ok (.iadd, 1) := by decide +kernel
theorem dX4_from_161 : decode cX4_from 161 = .ok (.iaload, 1) := by decide +kernel
theorem dX4_from_162 : decode cX4_from 162 = .ok (.iastore, 1) := by decide +kernel
theorem dX4_from_163 : decode cX4_from 163 = .ok (.iinc 3 1, 3) := by decide +kernel
theorem dX4_from_166 : decode cX4_from 166 = .ok (.goto (-25), 3) := by decide +kernel
theorem dX4_from_169 : decode cX4_from 169 = .ok (.iconst 0, 1) := by decide +kernel
theorem dX4_from_170 : decode cX4_from 170 = .ok (.istore_n 3, 1) := by decide +kernel
theorem dX4_from_171 : decode cX4_from 171 = .ok (.iload_n 3, 1) := by decide +kernel
theorem dX4_from_172 : decode cX4_from 172 = .ok (.iconst 4, 1) := by decide +kernel
theorem dX4_from_173 : decode cX4_from 173 = .ok (.if_icmp .ge 60, 3) := by decide +kernel
theorem dX4_from_176 : decode cX4_from 176 = .ok (.aload_n 0, 1) := by decide +kernel
theorem dX4_from_177 : decode cX4_from 177 = .ok (.getfield 28, 3) := by decide +kernel
theorem dX4_from_180 : decode cX4_from 180 = .ok (.iload_n 3, 1) := by decide +kernel
theorem dX4_from_181 : decode cX4_from 181 = .ok (.aload_n 0, 1) := by decide +kernel
theorem dX4_from_182 : decode cX4_from 182 = .ok (.getfield 59, 3) := by decide +kernel
theorem dX4_from_185 : decode cX4_from 185 = .ok (.iload_n 2, 1) := by decide +kernel
theorem dX4_from_186 : decode cX4_from 186 = .ok (.bipush 44, 2) := by decide +kernel
theorem dX4_from_188 : decode cX4_from 188 = .ok (.iadd, 1) := by decide +kernel
theorem dX4_from_189 : decode cX4_from 189 = .ok (.iload_n 3, 1) := by decide +kernel
theorem dX4_from_190 : decode cX4_from 190 = .ok (.iadd, 1) := by decide +kernel
theorem dX4_from_191 : decode cX4_from 191 = .ok (.iaload, 1) := by decide +kernel
theorem dX4_from_192 : decode cX4_from 192 = .ok (.iastore, 1) := by decide +kernel
theorem dX4_from_193 : decode cX4_from 193 = .ok (.aload_n 0, 1) := by decide +kernel
theorem dX4_from_194 : decode cX4_from 194 = .ok (.getfield 31, 3) := by decide +kernel
theorem dX4_from_197 : decode cX4_from 197 = .ok (.iload_n 3, 1) := by decide +kernel
theorem dX4_from_198 : decode cX4_from 198 = .ok (.aload_n 0, 1) := by decide +kernel
theorem dX4_from_199 : decode cX4_from 199 = .ok (.getfield 59, 3) := by decide +kernel
theorem dX4_from_202 : decode cX4_from 202 = .ok (.iload_n 2, 1) := by decide +kernel
theorem dX4_from_203 : decode cX4_from 203 = .ok (.bipush 48, 2) := by decide +kernel
theorem dX4_from_205 : decode cX4_from 205 = .ok (.iadd, 1) := by decide +kernel
theorem dX4_from_206 : decode cX4_from 206 = .ok (.iload_n 3, 1) := by decide +kernel
theorem dX4_from_207 : decode cX4_from 207 = .ok (.iadd, 1) := by decide +kernel
theorem dX4_from_208 : decode cX4_from 208 = .ok (.iaload, 1) := by decide +kernel
theorem dX4_from_209 : decode cX4_from 209 = .ok (.iastore, 1) := by decide +kernel
theorem dX4_from_210 : decode cX4_from 210 = .ok (.aload_n 0, 1) := by decide +kernel
theorem dX4_from_211 : decode cX4_from 211 = .ok (.getfield 34, 3) := by decide +kernel
theorem dX4_from_214 : decode cX4_from 214 = .ok (.iload_n 3, 1) := by decide +kernel
theorem dX4_from_215 : decode cX4_from 215 = .ok (.aload_n 0, 1) := by decide +kernel
theorem dX4_from_216 : decode cX4_from 216 = .ok (.getfield 59, 3) := by decide +kernel
theorem dX4_from_219 : decode cX4_from 219 = .ok (.iload_n 2, 1) := by decide +kernel
theorem dX4_from_220 : decode cX4_from 220 = .ok (.bipush 52, 2) := by decide +kernel
theorem dX4_from_222 : decode cX4_from 222 = .ok (.iadd, 1) := by decide +kernel
theorem dX4_from_223 : decode cX4_from 223 = .ok (.iload_n 3, 1) := by decide +kernel
theorem dX4_from_224 : decode cX4_from 224 = .ok (.iadd, 1) := by decide +kernel
theorem dX4_from_225 : decode cX4_from 225 = .ok (.iaload, 1) := by decide +kernel
theorem dX4_from_226 : decode cX4_from 226 = .ok (.iastore, 1) := by decide +kernel
theorem dX4_from_227 : decode cX4_from 227 = .ok (.iinc 3 1, 3) := by decide +kernel
theorem dX4_from_230 : decode cX4_from 230 = .ok (.goto (-59), 3) := by decide +kernel
theorem dX4_from_233 : decode cX4_from 233 = .ok (.iconst 0, 1) := by decide +kernel
theorem dX4_from_234 : decode cX4_from 234 = .ok (.istore_n 3, 1) := by decide +kernel
theorem dX4_from_235 : decode cX4_from 235 = .ok (.iload_n 3, 1) := by decide +kernel
theorem dX4_from_236 : decode cX4_from 236 = .ok (.bipush 42, 2) := by decide +kernel
theorem dX4_from_238 : decode cX4_from 238 = .ok (.if_icmp .ge 26, 3) := by decide +kernel
theorem dX4_from_241 : decode cX4_from 241 = .ok (.aload_n 0, 1) := by decide +kernel
theorem dX4_from_242 : decode cX4_from 242 = .ok (.getfield 37, 3) := by decide +kernel
theorem dX4_from_245 : decode cX4_from 245 = .ok (.iload_n 3, 1) := by decide +kernel
theorem dX4_from_246 : decode cX4_from 246 = .ok (.aload_n 0, 1) := by decide +kernel
theorem dX4_from_247 : decode cX4_from 247 = .ok (.getfield 59, 3) := by decide +kernel
theorem dX4_from_250 : decode cX4_from 250 = .ok (.iload_n 2, 1) := by decide +kernel
theorem dX4_from_251 : decode cX4_from 251 = .ok (.bipush 56, 2) := by decide +kernel
theorem dX4_from_253 : decode cX4_from 253 = .ok (.iadd, 1) := by decide +kernel
theorem dX4_from_254 : decode cX4_from 254 = .ok (.iload_n 3, 1) := by decide +kernel
theorem dX4_from_255 : decode cX4_from 255 = .ok (.iadd, 1) := by decide +kernel
theorem dX4_from_256 : decode cX4_from 256 = .ok (.iaload, 1) := by decide +kernel
theorem dX4_from_257 : decode cX4_from 257 = .ok (.iastore, 1) := by decide +kernel
theorem dX4_from_258 : decode cX4_from 258 = .ok (.iinc 3 1, 3) := by decide +kernel
theorem dX4_from_261 : decode cX4_from 261 = .ok (.goto (-26), 3) := by decide +kernel
theorem dX4_from_264 : decode cX4_from 264 = .ok (.iconst 0, 1) := by decide +kernel
theorem dX4_from_265 : decode cX4_from 265 = .ok (.istore_n 3, 1) := by decide +kernel
theorem dX4_from_266 : decode cX4_from 266 = .ok (.iload_n 3, 1) := by decide +kernel
theorem dX4_from_267 : decode cX4_from 267 = .ok (.bipush 88, 2) := by decide +kernel
theorem dX4_from_269 : decode cX4_from 269 = .ok (.if_icmp .ge 26, 3) := by decide +kernel
theorem dX4_from_272 : decode cX4_from 272 = .ok (.aload_n 0, 1) := by decide +kernel
theorem dX4_from_273 : decode cX4_from 273 = .ok (.getfield 49, 3) := by decide +kernel
theorem dX4_from_276 : decode cX4_from 276 = .ok (.iload_n 3, 1) := by decide +kernel
theorem dX4_from_277 : decode cX4_from 277 = .ok (.aload_n 0, 1) := by decide +kernel
theorem dX4_from_278 : decode cX4_from 278 = .ok (.getfield 59, 3) := by decide +kernel
theorem dX4_from_281 : decode cX4_from 281 = .ok (.iload_n 2, 1) := by decide +kernel
theorem dX4_from_282 : decode cX4_from 282 = .ok (.bipush 98, 2) := by decide +kernel
theorem dX4_from_284 : decode cX4_from 284 = .ok (.iadd, 1) := by decide +kernel
theorem dX4_from_285 : decode cX4_from 285 = .ok (.iload_n 3, 1) := by decide +kernel
theorem dX4_from_286 : decode cX4_from 286 = .ok (.iadd, 1) := by decide +kernel
theorem dX4_from_287 : decode cX4_from 287 = .ok (.iaload, 1) := by decide +kernel
theorem dX4_from_288 : decode cX4_from 288 = .ok (.iastore, 1) := by decide +kernel
theorem dX4_from_289 : decode cX4_from 289 = .ok (.iinc 3 1, 3) := by decide +kernel
theorem dX4_from_292 : decode cX4_from 292 = .ok (.goto (-26), 3) := by decide +kernel
theorem dX4_from_295 : decode cX4_from 295 = .ok (.iconst 1, 1) := by decide +kernel
theorem dX4_from_296 : decode cX4_from 296 = .ok (.ireturn, 1) := by decide +kernel
set_option maxRecDepth 20000 in
theorem ggX4_status_X4_in : GoodIn wsX4_status wsX4_in := goodIn_r _ [5] (by decide +kernel) (by decide +kernel)
set_option maxRecDepth 20000 in
theorem gX4_status_X4_in : GoodIn wsX4_status (va_wsS RX4 85 yX4_in wsX4_in) := goodIn_app (goodIn_of _ (by decide +kernel)) ggX4_status_X4_in
theorem dX4_status_0 : decode cX4_status 0 = .ok (.iload_n 1, 1) := by decide +kernel
theorem dX4_status_1 : decode cX4_status 1 = .ok (.iconst 0, 1) := by decide +kernel
theorem dX4_status_2 : decode cX4_status 2 = .ok (.iconst 2, 1) := by decide +kernel
theorem dX4_status_3 : decode cX4_status 3 = .ok (.invokestatic 85, 3) := by decide +kernel
theorem dX4_status_6 : decode cX4_status 6 = .ok (.ifCond .ne 15, 3) := by decide +kernel
theorem dX4_status_9 : decode cX4_status 9 = .ok (.aload_n 0, 1) := by decide +kernel
theorem dX4_status_10 : decode cX4_status 10 = .ok (.getfield 1, 3) := by decide +kernel
theorem dX4_status_13 : decode cX4_status 13 = .ok (.iconst 0, 1) := by decide +kernel
theorem dX4_status_14 : decode cX4_status 14 = .ok (.dup2, 1) := by decide +kernel
theorem dX4_status_15 : decode cX4_status 15 = .ok (.iaload, 1) := by decide +kernel
theorem dX4_status_16 : decode cX4_status 16 = .ok (.iconst 1, 1) := by decide +kernel
theorem dX4_status_17 : decode cX4_status 17 = .ok (.iadd, 1) := by decide +kernel
theorem dX4_status_18 : decode cX4_status 18 = .ok (.iastore, 1) := by decide +kernel
theorem dX4_status_19 : decode cX4_status 19 = .ok (.iconst (-1), 1) := by decide +kernel
theorem dX4_status_20 : decode cX4_status 20 = .ok (.ireturn, 1) := by decide +kernel
theorem dX4_status_21 : decode cX4_status 21 = .ok (.aload_n 0, 1) := by decide +kernel
theorem dX4_status_22 : decode cX4_status 22 = .ok (.getfield 1, 3) := by decide +kernel
theorem dX4_status_25 : decode cX4_status 25 = .ok (.iload_n 1, 1) := by decide +kernel
theorem dX4_status_26 : decode cX4_status 26 = .ok (.iaload, 1) := by decide +kernel
theorem dX4_status_27 : decode cX4_status 27 = .ok (.ireturn, 1) := by decide +kernel
set_option maxRecDepth 20000 in
theorem ggX4_countOf_X4_outs : GoodIn wsX4_countOf wsX4_outs := goodIn_r _ [11, 1, 12, 13, 14, 10, 15, 16, 17, 18, 19, 20, 21, 22, 23, 24, 25, 26, 27, 28, 29, 30, 31, 32, 33, 34, 35, 36, 37, 38, 39, 40, 41, 42, 43, 44, 45] (by decide +kernel) (by decide +kernel)
set_option maxRecDepth 20000 in
theorem gX4_countOf_X4_outs : GoodIn wsX4_countOf (wsV RX4 197 RX4 yX4_outs wsX4_outs) := goodIn_app (goodIn_of _ (by decide +kernel)) ggX4_countOf_X4_outs
theorem dX4_countOf_0 : decode cX4_countOf 0 = .ok (.iload_n 1, 1) := by decide +kernel
theorem dX4_countOf_1 : decode cX4_countOf 1 = .ok (.tableswitch 69 0 5 #[39, 44, 49, 54, 59, 64], 39) := by decide +kernel
theorem dX4_countOf_40 : decode cX4_countOf 40 = .ok (.aload_n 0, 1) := by decide +kernel
theorem dX4_countOf_41 : decode cX4_countOf 41 = .ok (.getfield 73, 3) := by decide +kernel
theorem dX4_countOf_44 : decode cX4_countOf 44 = .ok (.ireturn, 1) := by decide +kernel
theorem dX4_countOf_45 : decode cX4_countOf 45 = .ok (.aload_n 0, 1) := by decide +kernel
theorem dX4_countOf_46 : decode cX4_countOf 46 = .ok (.getfield 69, 3) := by decide +kernel
theorem dX4_countOf_49 : decode cX4_countOf 49 = .ok (.ireturn, 1) := by decide +kernel
theorem dX4_countOf_50 : decode cX4_countOf 50 = .ok (.aload_n 0, 1) := by decide +kernel
theorem dX4_countOf_51 : decode cX4_countOf 51 = .ok (.invokevirtual 197, 3) := by decide +kernel
theorem dX4_countOf_54 : decode cX4_countOf 54 = .ok (.ireturn, 1) := by decide +kernel
theorem dX4_countOf_55 : decode cX4_countOf 55 = .ok (.aload_n 0, 1) := by decide +kernel
theorem dX4_countOf_56 : decode cX4_countOf 56 = .ok (.getfield 76, 3) := by decide +kernel
theorem dX4_countOf_59 : decode cX4_countOf 59 = .ok (.ireturn, 1) := by decide +kernel
theorem dX4_countOf_60 : decode cX4_countOf 60 = .ok (.aload_n 0, 1) := by decide +kernel
theorem dX4_countOf_61 : decode cX4_countOf 61 = .ok (.getfield 79, 3) := by decide +kernel
theorem dX4_countOf_64 : decode cX4_countOf 64 = .ok (.ireturn, 1) := by decide +kernel
theorem dX4_countOf_65 : decode cX4_countOf 65 = .ok (.aload_n 0, 1) := by decide +kernel
theorem dX4_countOf_66 : decode cX4_countOf 66 = .ok (.getfield 82, 3) := by decide +kernel
theorem dX4_countOf_69 : decode cX4_countOf 69 = .ok (.ireturn, 1) := by decide +kernel
theorem dX4_countOf_70 : decode cX4_countOf 70 = .ok (.aload_n 0, 1) := by decide +kernel
theorem dX4_countOf_71 : decode cX4_countOf 71 = .ok (.getfield 104, 3) := by decide +kernel
theorem dX4_countOf_74 : decode cX4_countOf 74 = .ok (.ireturn, 1) := by decide +kernel
set_option maxRecDepth 20000 in
theorem ggX4_count_X4_in : GoodIn wsX4_count wsX4_in := goodIn_r _ [4] (by decide +kernel) (by decide +kernel)
set_option maxRecDepth 20000 in
theorem gX4_count_X4_in : GoodIn wsX4_count (va_wsS RX4 85 yX4_in wsX4_in) := goodIn_app (goodIn_of _ (by decide +kernel)) ggX4_count_X4_in
set_option maxRecDepth 20000 in
theorem ggX4_count_X4_countOf : GoodIn wsX4_count wsX4_countOf := goodIn_r _ [8, 9, 10, 11, 12, 13, 14, 15, 16, 17, 3, 18, 19, 20, 21, 22, 28, 29, 30, 31, 32, 33, 34, 35, 36, 37, 38, 39, 40, 41, 42, 43, 44, 45, 46, 47, 48, 49, 50, 51, 52, 53, 54, 55, 56, 57] (by decide +kernel) (by decide +kernel)
set_option maxRecDepth 20000 in
theorem gX4_count_X4_countOf : GoodIn wsX4_count (wsV RX4 273 RX4 yX4_countOf wsX4_countOf) := goodIn_app (goodIn_of _ (by decide +kernel)) ggX4_count_X4_countOf
set_option maxRecDepth 20000 in
theorem ggX4_count_X4_bad : GoodIn wsX4_count wsX4_bad := goodIn_r _ [26, 27, 28, 29, 30, 31, 32, 33, 34, 35, 36, 37, 38, 39, 40, 41, 42, 43, 44, 45, 46, 47, 48, 49, 50, 51, 52, 53, 54, 55, 56, 57] (by decide +kernel) (by decide +kernel)
set_option maxRecDepth 20000 in
theorem gX4_count_X4_bad : GoodIn wsX4_count (wsV RX4 89 RX4 yX4_bad wsX4_bad) := goodIn_app (goodIn_of _ (by decide +kernel)) ggX4_count_X4_bad
theorem dX4_count_0 : decode cX4_count 0 = .ok (.iload_n 1, 1) := by decide +kernel
theorem dX4_count_1 : decode cX4_count 1 = .ok (.iconst 0, 1) := by decide +kernel
theorem dX4_count_2 : decode cX4_count 2 = .ok (.bipush 6, 2) := by decide +kernel
theorem dX4_count_4 : decode cX4_count 4 = .ok (.invokestatic 85, 3) := by decide +kernel
theorem dX4_count_7 : decode cX4_count 7 = .ok (.ifCond .eq 11, 3) := by decide +kernel
theorem dX4_count_10 : decode cX4_count 10 = .ok (.aload_n 0, 1) := by decide +kernel
theorem dX4_count_11 : decode cX4_count 11 = .ok (.iload_n 1, 1) := by decide +kernel
theorem dX4_count_12 : decode cX4_count 12 = .ok (.invokevirtual 273, 3) := by decide +kernel
theorem dX4_count_15 : decode cX4_count 15 = .ok (.goto 7, 3) := by decide +kernel
theorem dX4_count_18 : decode cX4_count 18 = .ok (.aload_n 0, 1) := by decide +kernel
theorem dX4_count_19 : decode cX4_count 19 = .ok (.invokevirtual 89, 3) := by decide +kernel
theorem dX4_count_22 : decode cX4_count 22 = .ok (.ireturn, 1) := by decide +kernel
theorem dX4_mix_0 : decode cX4_mix 0 = .ok (.aload_n 0, 1) := by decide +kernel
theorem dX4_mix_1 : decode cX4_mix 1 = .ok (.ldc2_w 276, 3) := by decide +kernel
theorem dX4_mix_4 : decode cX4_mix 4 = .ok (.aload_n 0, 1) := by decide +kernel
theorem dX4_mix_5 : decode cX4_mix 5 = .ok (.getfield 278, 3) := by decide +kernel
theorem dX4_mix_8 : decode cX4_mix 8 = .ok (.lmul, 1) := by decide +kernel
theorem dX4_mix_9 : decode cX4_mix 9 = .ok (.lload_n 1, 1) := by decide +kernel
theorem dX4_mix_10 : decode cX4_mix 10 = .ok (.ladd, 1) := by decide +kernel
theorem dX4_mix_11 : decode cX4_mix 11 = .ok (.putfield 278, 3) := by decide +kernel
theorem dX4_mix_14 : decode cX4_mix 14 = .ok (.return_, 1) := by decide +kernel
set_option maxRecDepth 20000 in
theorem ggX4_digest_X4_countOf : GoodIn wsX4_digest wsX4_countOf := goodIn_r _ [21, 5, 22, 9, 13, 23, 24, 25, 26, 27, 20, 28, 7, 29, 30, 31, 37, 38, 39, 40, 41, 42, 43, 44, 45, 46, 47, 48, 49, 50, 51, 52, 53, 54, 55, 56, 57, 58, 59, 60, 61, 62, 63, 64, 65, 66] (by decide +kernel) (by decide +kernel)
set_option maxRecDepth 20000 in
theorem gX4_digest_X4_countOf : GoodIn wsX4_digest (wsV RX4 273 RX4 yX4_countOf wsX4_countOf) := goodIn_app (goodIn_of _ (by decide +kernel)) ggX4_digest_X4_countOf
set_option maxRecDepth 20000 in
theorem ggX4_digest_X4_mix : GoodIn wsX4_digest wsX4_mix := goodIn_r _ [35, 36, 2, 37, 38, 39, 40, 41, 42, 43, 44, 45, 46, 47, 48, 49, 50, 51, 52, 53, 54, 55, 56, 57, 58, 59, 60, 61, 62, 63, 64, 65, 66] (by decide +kernel) (by decide +kernel)
set_option maxRecDepth 20000 in
theorem gX4_digest_X4_mix : GoodIn wsX4_digest (wsV RX4 283 RX4 yX4_mix wsX4_mix) := goodIn_app (goodIn_of _ (by decide +kernel)) ggX4_digest_X4_mix
theorem dX4_digest_0 : decode cX4_digest 0 = .ok (.aload_n 0, 1) := by decide +kernel
theorem dX4_digest_1 : decode cX4_digest 1 = .ok (.ldc2_w 281, 3) := by decide +kernel
theorem dX4_digest_4 : decode cX4_digest 4 = .ok (.putfield 278, 3) := by decide +kernel
theorem dX4_digest_7 : decode cX4_digest 7 = .ok (.iconst 0, 1) := by decide +kernel
theorem dX4_digest_8 : decode cX4_digest 8 = .ok (.istore_n 1, 1) := by decide +kernel
theorem dX4_digest_9 : decode cX4_digest 9 = .ok (.iload_n 1, 1) := by decide +kernel
theorem dX4_digest_10 : decode cX4_digest 10 = .ok (.bipush 6, 2) := by decide +kernel
theorem dX4_digest_12 : decode cX4_digest 12 = .ok (.if_icmp .gt 19, 3) := by decide +kernel
theorem dX4_digest_15 : decode cX4_digest 15 = .ok (.aload_n 0, 1) := by decide +kernel
theorem dX4_digest_16 : decode cX4_digest 16 = .ok (.aload_n 0, 1) := by decide +kernel
theorem dX4_digest_17 : decode cX4_digest 17 = .ok (.iload_n 1, 1) := by decide +kernel
theorem dX4_digest_18 : decode cX4_digest 18 = .ok (.invokevirtual 273, 3) := by decide +kernel
theorem dX4_digest_21 : decode cX4_digest 21 = .ok (.i2l, 1) := by decide +kernel
theorem dX4_digest_22 : decode cX4_digest 22 = .ok (.invokevirtual 283, 3) := by decide +kernel
theorem dX4_digest_25 : decode cX4_digest 25 = .ok (.iinc 1 1, 3) := by decide +kernel
theorem dX4_digest_28 : decode cX4_digest 28 = .ok (.goto (-19), 3) := by decide +kernel
theorem dX4_digest_31 : decode cX4_digest 31 = .ok (.iconst 0, 1) := by decide +kernel
theorem dX4_digest_32 : decode cX4_digest 32 = .ok (.istore_n 1, 1) := by decide +kernel
theorem dX4_digest_33 : decode cX4_digest 33 = .ok (.iload_n 1, 1) := by decide +kernel
theorem dX4_digest_34 : decode cX4_digest 34 = .ok (.bipush 12, 2) := by decide +kernel
theorem dX4_digest_36 : decode cX4_digest 36 = .ok (.if_icmp .ge 31, 3) := by decide +kernel
theorem dX4_digest_39 : decode cX4_digest 39 = .ok (.aload_n 0, 1) := by decide +kernel
theorem dX4_digest_40 : decode cX4_digest 40 = .ok (.aload_n 0, 1) := by decide +kernel
theorem dX4_digest_41 : decode cX4_digest 41 = .ok (.getfield 13, 3) := by decide +kernel
theorem dX4_digest_44 : decode cX4_digest 44 = .ok (.iload_n 1, 1) := by decide +kernel
theorem dX4_digest_45 : decode cX4_digest 45 = .ok (.iaload, 1) := by decide +kernel
theorem dX4_digest_46 : decode cX4_digest 46 = .ok (.i2l, 1) := by decide +kernel
theorem dX4_digest_47 : decode cX4_digest 47 = .ok (.invokevirtual 283, 3) := by decide +kernel
theorem dX4_digest_50 : decode cX4_digest 50 = .ok (.aload_n 0, 1) := by decide +kernel
theorem dX4_digest_51 : decode cX4_digest 51 = .ok (.aload_n 0, 1) := by decide +kernel
theorem dX4_digest_52 : decode cX4_digest 52 = .ok (.getfield 16, 3) := by decide +kernel
theorem dX4_digest_55 : decode cX4_digest 55 = .ok (.iload_n 1, 1) := by decide +kernel
theorem dX4_digest_56 : decode cX4_digest 56 = .ok (.iaload, 1) := by decide +kernel
theorem dX4_digest_57 : decode cX4_digest 57 = .ok (.i2l, 1) := by decide +kernel
theorem dX4_digest_58 : decode cX4_digest 58 = .ok (.invokevirtual 283, 3) := by decide +kernel
theorem dX4_digest_61 : decode cX4_digest 61 = .ok (.iinc 1 1, 3) := by decide +kernel
theorem dX4_digest_64 : decode cX4_digest 64 = .ok (.goto (-31), 3) := by decide +kernel
theorem dX4_digest_67 : decode cX4_digest 67 = .ok (.iconst 0, 1) := by decide +kernel
theorem dX4_digest_68 : decode cX4_digest 68 = .ok (.istore_n 1, 1) := by decide +kernel
theorem dX4_digest_69 : decode cX4_digest 69 = .ok (.iload_n 1, 1) := by decide +kernel
theorem dX4_digest_70 : decode cX4_digest 70 = .ok (.aload_n 0, 1) := by decide +kernel
theorem dX4_digest_71 : decode cX4_digest 71 = .ok (.getfield 73, 3) := by decide +kernel
theorem dX4_digest_74 : decode cX4_digest 74 = .ok (.if_icmp .ge 42, 3) := by decide +kernel
theorem dX4_digest_77 : decode cX4_digest 77 = .ok (.aload_n 0, 1) := by decide +kernel
theorem dX4_digest_78 : decode cX4_digest 78 = .ok (.aload_n 0, 1) := by decide +kernel
theorem dX4_digest_79 : decode cX4_digest 79 = .ok (.getfield 19, 3) := by decide +kernel
theorem dX4_digest_82 : decode cX4_digest 82 = .ok (.iload_n 1, 1) := by decide +kernel
theorem dX4_digest_83 : decode cX4_digest 83 = .ok (.iaload, 1) := by decide +kernel
theorem dX4_digest_84 : decode cX4_digest 84 = .ok (.i2l, 1) := by decide +kernel
theorem dX4_digest_85 : decode cX4_digest 85 = .ok (.invokevirtual 283, 3) := by decide +kernel
theorem dX4_digest_88 : decode cX4_digest 88 = .ok (.aload_n 0, 1) := by decide +kernel
theorem dX4_digest_89 : decode cX4_digest 89 = .ok (.aload_n 0, 1) := by decide +kernel
theorem dX4_digest_90 : decode cX4_digest 90 = .ok (.getfield 22, 3) := by decide +kernel
theorem dX4_digest_93 : decode cX4_digest 93 = .ok (.iload_n 1, 1) := by decide +kernel
theorem dX4_digest_94 : decode cX4_digest 94 = .ok (.iaload, 1) := by decide +kernel
theorem dX4_digest_95 : decode cX4_digest 95 = .ok (.i2l, 1) := by decide +kernel
theorem dX4_digest_96 : decode cX4_digest 96 = .ok (.invokevirtual 283, 3) := by decide +kernel
theorem dX4_digest_99 : decode cX4_digest 99 = .ok (.aload_n 0, 1) := by decide +kernel
theorem dX4_digest_100 : decode cX4_digest 100 = .ok (.aload_n 0, 1) := by decide +kernel
theorem dX4_digest_101 : decode cX4_digest 101 = .ok (.getfield 25, 3) := by decide +kernel
theorem dX4_digest_104 : decode cX4_digest 104 = .ok (.iload_n 1, 1) := by decide +kernel
theorem dX4_digest_105 : decode cX4_digest 105 = .ok (.iaload, 1) := by decide +kernel
theorem dX4_digest_106 : decode cX4_digest 106 = .ok (.i2l, 1) := by decide +kernel
theorem dX4_digest_107 : decode cX4_digest 107 = .ok (.invokevirtual 283, 3) := by decide +kernel
theorem dX4_digest_110 : decode cX4_digest 110 = .ok (.iinc 1 1, 3) := by decide +kernel
theorem dX4_digest_113 : decode cX4_digest 113 = .ok (.goto (-44), 3) := by decide +kernel
theorem dX4_digest_116 : decode cX4_digest 116 = .ok (.iconst 0, 1) := by decide +kernel
theorem dX4_digest_117 : decode cX4_digest 117 = .ok (.istore_n 1, 1) := by decide +kernel
theorem dX4_digest_118 : decode cX4_digest 118 = .ok (.iload_n 1, 1) := by decide +kernel
theorem dX4_digest_119 : decode cX4_digest 119 = .ok (.aload_n 0, 1) := by decide +kernel
theorem dX4_digest_120 : decode cX4_digest 120 = .ok (.getfield 76, 3) := by decide +kernel
theorem dX4_digest_123 : decode cX4_digest 123 = .ok (.if_icmp .ge 42, 3) := by decide +kernel
theorem dX4_digest_126 : decode cX4_digest 126 = .ok (.aload_n 0, 1) := by decide +kernel
theorem dX4_digest_127 : decode cX4_digest 127 = .ok (.aload_n 0, 1) := by decide +kernel
theorem dX4_digest_128 : decode cX4_digest 128 = .ok (.getfield 28, 3) := by decide +kernel
theorem dX4_digest_131 : decode cX4_digest 131 = .ok (.iload_n 1, 1) := by decide +kernel
theorem dX4_digest_132 : decode cX4_digest 132 = .ok (.iaload, 1) := by decide +kernel
theorem dX4_digest_133 : decode cX4_digest 133 = .ok (.i2l, 1) := by decide +kernel
theorem dX4_digest_134 : decode cX4_digest 134 = .ok (.invokevirtual 283, 3) := by decide +kernel
theorem dX4_digest_137 : decode cX4_digest 137 = .ok (.aload_n 0, 1) := by decide +kernel
theorem dX4_digest_138 : decode cX4_digest 138 = .ok (.aload_n 0, 1) := by decide +kernel
theorem dX4_digest_139 : decode cX4_digest 139 = .ok (.getfield 31, 3) := by decide +kernel
theorem dX4_digest_142 : decode cX4_digest 142 = .ok (.iload_n 1, 1) := by decide +kernel
theorem dX4_digest_143 : decode cX4_digest 143 = .ok (.iaload, 1) := by decide +kernel
theorem dX4_digest_144 : decode cX4_digest 144 = .ok (.i2l, 1) := by decide +kernel
theorem dX4_digest_145 : decode cX4_digest 145 = .ok (.invokevirtual 283, 3) := by decide +kernel
theorem dX4_digest_148 : decode cX4_digest 148 = .ok (.aload_n 0, 1) := by decide +kernel
theorem dX4_digest_149 : decode cX4_digest 149 = .ok (.aload_n 0, 1) := by decide +kernel
theorem dX4_digest_150 : decode cX4_digest 150 = .ok (.getfield 34, 3) := by decide +kernel
theorem dX4_digest_153 : decode cX4_digest 153 = .ok (.iload_n 1, 1) := by decide +kernel
theorem dX4_digest_154 : decode cX4_digest 154 = .ok (.iaload, 1) := by decide +kernel
theorem dX4_digest_155 : decode cX4_digest 155 = .ok (.i2l, 1) := by decide +kernel
theorem dX4_digest_156 : decode cX4_digest 156 = .ok (.invokevirtual 283, 3) := by decide +kernel
theorem dX4_digest_159 : decode cX4_digest 159 = .ok (.iinc 1 1, 3) := by decide +kernel
theorem dX4_digest_162 : decode cX4_digest 162 = .ok (.goto (-44), 3) := by decide +kernel
theorem dX4_digest_165 : decode cX4_digest 165 = .ok (.iconst 0, 1) := by decide +kernel
theorem dX4_digest_166 : decode cX4_digest 166 = .ok (.istore_n 1, 1) := by decide +kernel
theorem dX4_digest_167 : decode cX4_digest 167 = .ok (.iload_n 1, 1) := by decide +kernel
theorem dX4_digest_168 : decode cX4_digest 168 = .ok (.bipush 7, 2) := by decide +kernel
theorem dX4_digest_170 : decode cX4_digest 170 = .ok (.aload_n 0, 1) := by decide +kernel
theorem dX4_digest_171 : decode cX4_digest 171 = .ok (.getfield 79, 3) := by decide +kernel
theorem dX4_digest_174 : decode cX4_digest 174 = .ok (.imul, 1) := by decide +kernel
theorem dX4_digest_175 : decode cX4_digest 175 = .ok (.if_icmp .ge 20, 3) := by decide +kernel
theorem dX4_digest_178 : decode cX4_digest 178 = .ok (.aload_n 0, 1) := by decide +kernel
theorem dX4_digest_179 : decode cX4_digest 179 = .ok (.aload_n 0, 1) := by decide +kernel
theorem dX4_digest_180 : decode cX4_digest 180 = .ok (.getfield 37, 3) := by decide +kernel
theorem dX4_digest_183 : decode cX4_digest 183 = .ok (.iload_n 1, 1) := by decide +kernel
theorem dX4_digest_184 : decode cX4_digest 184 = .ok (.iaload, 1) := by decide +kernel
theorem dX4_digest_185 : decode cX4_digest 185 = .ok (.i2l, 1) := by decide +kernel
theorem dX4_digest_186 : decode cX4_digest 186 = .ok (.invokevirtual 283, 3) := by decide +kernel
theorem dX4_digest_189 : decode cX4_digest 189 = .ok (.iinc 1 1, 3) := by decide +kernel
theorem dX4_digest_192 : decode cX4_digest 192 = .ok (.goto (-25), 3) := by decide +kernel
theorem dX4_digest_195 : decode cX4_digest 195 = .ok (.aload_n 0, 1) := by decide +kernel
theorem dX4_digest_196 : decode cX4_digest 196 = .ok (.aload_n 0, 1) := by decide +kernel
theorem dX4_digest_197 : decode cX4_digest 197 = .ok (.getfield 245, 3) := by decide +kernel
theorem dX4_digest_200 : decode cX4_digest 200 = .ok (.invokevirtual 283, 3) := by decide +kernel
theorem dX4_digest_203 : decode cX4_digest 203 = .ok (.aload_n 0, 1) := by decide +kernel
theorem dX4_digest_204 : decode cX4_digest 204 = .ok (.aload_n 0, 1) := by decide +kernel
theorem dX4_digest_205 : decode cX4_digest 205 = .ok (.getfield 55, 3) := by decide +kernel
theorem dX4_digest_208 : decode cX4_digest 208 = .ok (.invokevirtual 283, 3) := by decide +kernel
theorem dX4_digest_211 : decode cX4_digest 211 = .ok (.aload_n 0, 1) := by decide +kernel
theorem dX4_digest_212 : decode cX4_digest 212 = .ok (.getfield 278, 3) := by decide +kernel
theorem dX4_digest_215 : decode cX4_digest 215 = .ok (.lreturn, 1) := by decide +kernel
