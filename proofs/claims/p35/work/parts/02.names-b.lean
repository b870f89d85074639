theorem inJ9 : ∀ w ∈ wsJ90, w ∈ lw_tbl := by decide +kernel
theorem inJ10 : ∀ w ∈ wsJ100, w ∈ lw_tbl := by decide +kernel
theorem inJ7 : ∀ w ∈ wsJ70, w ∈ lw_tbl := by decide +kernel
abbrev vwCl : List vw_C := [(RX1, TX1, 13), (RX2, TX2, 4), (RX3, TX3, 12)]
theorem dJ9_abs_0f7a4_0 : decode cJ9_abs_0f7a4 0 = .ok (.iload_n 0, 1) := by decide +kernel
theorem dJ9_abs_0f7a4_1 : decode cJ9_abs_0f7a4 1 = .ok (.ifCond .ge 8, 3) := by decide +kernel
theorem dJ9_abs_0f7a4_4 : decode cJ9_abs_0f7a4 4 = .ok (.iload_n 0, 1) := by decide +kernel
theorem dJ9_abs_0f7a4_5 : decode cJ9_abs_0f7a4 5 = .ok (.ineg, 1) := by decide +kernel
theorem dJ9_abs_0f7a4_6 : decode cJ9_abs_0f7a4 6 = .ok (.goto 4, 3) := by decide +kernel
theorem dJ9_abs_0f7a4_9 : decode cJ9_abs_0f7a4 9 = .ok (.iload_n 0, 1) := by decide +kernel
theorem dJ9_abs_0f7a4_10 : decode cJ9_abs_0f7a4 10 = .ok (.ireturn, 1) := by decide +kernel
theorem dJ9_max_7cf53_0 : decode cJ9_max_7cf53 0 = .ok (.iload_n 0, 1) := by decide +kernel
theorem dJ9_max_7cf53_1 : decode cJ9_max_7cf53 1 = .ok (.iload_n 1, 1) := by decide +kernel
theorem dJ9_max_7cf53_2 : decode cJ9_max_7cf53 2 = .ok (.if_icmp .lt 7, 3) := by decide +kernel
theorem dJ9_max_7cf53_5 : decode cJ9_max_7cf53 5 = .ok (.iload_n 0, 1) := by decide +kernel
theorem dJ9_max_7cf53_6 : decode cJ9_max_7cf53 6 = .ok (.goto 4, 3) := by decide +kernel
theorem dJ9_max_7cf53_9 : decode cJ9_max_7cf53 9 = .ok (.iload_n 1, 1) := by decide +kernel
theorem dJ9_max_7cf53_10 : decode cJ9_max_7cf53 10 = .ok (.ireturn, 1) := by decide +kernel
theorem dJ9_min_7cf53_0 : decode cJ9_min_7cf53 0 = .ok (.iload_n 0, 1) := by decide +kernel
theorem dJ9_min_7cf53_1 : decode cJ9_min_7cf53 1 = .ok (.iload_n 1, 1) := by decide +kernel
theorem dJ9_min_7cf53_2 : decode cJ9_min_7cf53 2 = .ok (.if_icmp .gt 7, 3) := by decide +kernel
theorem dJ9_min_7cf53_5 : decode cJ9_min_7cf53 5 = .ok (.iload_n 0, 1) := by decide +kernel
theorem dJ9_min_7cf53_6 : decode cJ9_min_7cf53 6 = .ok (.goto 4, 3) := by decide +kernel
theorem dJ9_min_7cf53_9 : decode cJ9_min_7cf53 9 = .ok (.iload_n 1, 1) := by decide +kernel
theorem dJ9_min_7cf53_10 : decode cJ9_min_7cf53 10 = .ok (.ireturn, 1) := by decide +kernel
theorem dJ7_fill_d0a16_0 : decode cJ7_fill_d0a16 0 = .ok (.iconst 0, 1) := by decide +kernel
theorem dJ7_fill_d0a16_1 : decode cJ7_fill_d0a16 1 = .ok (.istore_n 3, 1) := by decide +kernel
theorem dJ7_fill_d0a16_2 : decode cJ7_fill_d0a16 2 = .ok (.aload_n 0, 1) := by decide +kernel
theorem dJ7_fill_d0a16_3 : decode cJ7_fill_d0a16 3 = .ok (.arraylength, 1) := by decide +kernel
theorem dJ7_fill_d0a16_4 : decode cJ7_fill_d0a16 4 = .ok (.istore 4, 2) := by decide +kernel
theorem dJ7_fill_d0a16_6 : decode cJ7_fill_d0a16 6 = .ok (.iload_n 3, 1) := by decide +kernel
theorem dJ7_fill_d0a16_7 : decode cJ7_fill_d0a16 7 = .ok (.iload 4, 2) := by decide +kernel
theorem dJ7_fill_d0a16_9 : decode cJ7_fill_d0a16 9 = .ok (.if_icmp .ge 13, 3) := by decide +kernel
theorem dJ7_fill_d0a16_12 : decode cJ7_fill_d0a16 12 = .ok (.aload_n 0, 1) := by decide +kernel
theorem dJ7_fill_d0a16_13 : decode cJ7_fill_d0a16 13 = .ok (.iload_n 3, 1) := by decide +kernel
theorem dJ7_fill_d0a16_14 : decode cJ7_fill_d0a16 14 = .ok (.lload_n 1, 1) := by decide +kernel
theorem dJ7_fill_d0a16_15 : decode cJ7_fill_d0a16 15 = .ok (.lastore, 1) := by decide +kernel
theorem dJ7_fill_d0a16_16 : decode cJ7_fill_d0a16 16 = .ok (.iinc 3 1, 3) := by decide +kernel
theorem dJ7_fill_d0a16_19 : decode cJ7_fill_d0a16 19 = .ok (.goto (-13), 3) := by decide +kernel
theorem dJ7_fill_d0a16_22 : decode cJ7_fill_d0a16 22 = .ok (.return_, 1) := by decide +kernel
theorem dJ7_fill_53178_0 : decode cJ7_fill_53178 0 = .ok (.iconst 0, 1) := by decide +kernel
theorem dJ7_fill_53178_1 : decode cJ7_fill_53178 1 = .ok (.istore_n 2, 1) := by decide +kernel
theorem dJ7_fill_53178_2 : decode cJ7_fill_53178 2 = .ok (.aload_n 0, 1) := by decide +kernel
theorem dJ7_fill_53178_3 : decode cJ7_fill_53178 3 = .ok (.arraylength, 1) := by decide +kernel
theorem dJ7_fill_53178_4 : decode cJ7_fill_53178 4 = .ok (.istore_n 3, 1) := by decide +kernel
theorem dJ7_fill_53178_5 : decode cJ7_fill_53178 5 = .ok (.iload_n 2, 1) := by decide +kernel
theorem dJ7_fill_53178_6 : decode cJ7_fill_53178 6 = .ok (.iload_n 3, 1) := by decide +kernel
theorem dJ7_fill_53178_7 : decode cJ7_fill_53178 7 = .ok (.if_icmp .ge 13, 3) := by decide +kernel
theorem dJ7_fill_53178_10 : decode cJ7_fill_53178 10 = .ok (.aload_n 0, 1) := by decide +kernel
theorem dJ7_fill_53178_11 : decode cJ7_fill_53178 11 = .ok (.iload_n 2, 1) := by decide +kernel
theorem dJ7_fill_53178_12 : decode cJ7_fill_53178 12 = .ok (.iload_n 1, 1) := by decide +kernel
theorem dJ7_fill_53178_13 : decode cJ7_fill_53178 13 = .ok (.iastore, 1) := by decide +kernel
theorem dJ7_fill_53178_14 : decode cJ7_fill_53178 14 = .ok (.iinc 2 1, 3) := by decide +kernel
theorem dJ7_fill_53178_17 : decode cJ7_fill_53178 17 = .ok (.goto (-12), 3) := by decide +kernel
theorem dJ7_fill_53178_20 : decode cJ7_fill_53178 20 = .ok (.return_, 1) := by decide +kernel
theorem dX0_wayOf_0 : decode cX0_wayOf 0 = .ok (.iload_n 1, 1) := by decide +kernel
theorem dX0_wayOf_1 : decode cX0_wayOf 1 = .ok (.iconst 2, 1) := by decide +kernel
theorem dX0_wayOf_2 : decode cX0_wayOf 2 = .ok (.irem, 1) := by decide +kernel
theorem dX0_wayOf_3 : decode cX0_wayOf 3 = .ok (.iconst 1, 1) := by decide +kernel
theorem dX0_wayOf_4 : decode cX0_wayOf 4 = .ok (.if_icmp .ne 11, 3) := by decide +kernel
theorem dX0_wayOf_7 : decode cX0_wayOf 7 = .ok (.iload_n 2, 1) := by decide +kernel
theorem dX0_wayOf_8 : decode cX0_wayOf 8 = .ok (.iconst 1, 1) := by decide +kernel
theorem dX0_wayOf_9 : decode cX0_wayOf 9 = .ok (.iadd, 1) := by decide +kernel
theorem dX0_wayOf_10 : decode cX0_wayOf 10 = .ok (.iconst 4, 1) := by decide +kernel
theorem dX0_wayOf_11 : decode cX0_wayOf 11 = .ok (.irem, 1) := by decide +kernel
theorem dX0_wayOf_12 : decode cX0_wayOf 12 = .ok (.goto 4, 3) := by decide +kernel
theorem dX0_wayOf_15 : decode cX0_wayOf 15 = .ok (.iload_n 2, 1) := by decide +kernel
theorem dX0_wayOf_16 : decode cX0_wayOf 16 = .ok (.istore_n 3, 1) := by decide +kernel
theorem dX0_wayOf_17 : decode cX0_wayOf 17 = .ok (.iload_n 0, 1) := by decide +kernel
theorem dX0_wayOf_18 : decode cX0_wayOf 18 = .ok (.lookupswitch 44 #[(2, 26), (4, 28)], 26) := by decide +kernel
theorem dX0_wayOf_44 : decode cX0_wayOf 44 = .ok (.iload_n 3, 1) := by decide +kernel
theorem dX0_wayOf_45 : decode cX0_wayOf 45 = .ok (.ireturn, 1) := by decide +kernel
theorem dX0_wayOf_46 : decode cX0_wayOf 46 = .ok (.iload_n 1, 1) := by decide +kernel
theorem dX0_wayOf_47 : decode cX0_wayOf 47 = .ok (.iconst 3, 1) := by decide +kernel
theorem dX0_wayOf_48 : decode cX0_wayOf 48 = .ok (.irem, 1) := by decide +kernel
theorem dX0_wayOf_49 : decode cX0_wayOf 49 = .ok (.ifCond .ne 11, 3) := by decide +kernel
theorem dX0_wayOf_52 : decode cX0_wayOf 52 = .ok (.iload_n 3, 1) := by decide +kernel
theorem dX0_wayOf_53 : decode cX0_wayOf 53 = .ok (.iconst 2, 1) := by decide +kernel
theorem dX0_wayOf_54 : decode cX0_wayOf 54 = .ok (.iadd, 1) := by decide +kernel
theorem dX0_wayOf_55 : decode cX0_wayOf 55 = .ok (.iconst 4, 1) := by decide +kernel
theorem dX0_wayOf_56 : decode cX0_wayOf 56 = .ok (.irem, 1) := by decide +kernel
theorem dX0_wayOf_57 : decode cX0_wayOf 57 = .ok (.goto 4, 3) := by decide +kernel
theorem dX0_wayOf_60 : decode cX0_wayOf 60 = .ok (.iload_n 3, 1) := by decide +kernel
theorem dX0_wayOf_61 : decode cX0_wayOf 61 = .ok (.ireturn, 1) := by decide +kernel
theorem dX0_wayOf_62 : decode cX0_wayOf 62 = .ok (.iload_n 2, 1) := by decide +kernel
theorem dX0_wayOf_63 : decode cX0_wayOf 63 = .ok (.ireturn, 1) := by decide +kernel
theorem dX0_cellsOf_0 : decode cX0_cellsOf 0 = .ok (.iload_n 1, 1) := by decide +kernel
theorem dX0_cellsOf_1 : decode cX0_cellsOf 1 = .ok (.iconst 1, 1) := by decide +kernel
theorem dX0_cellsOf_2 : decode cX0_cellsOf 2 = .ok (.if_icmp .lt 7, 3) := by decide +kernel
theorem dX0_cellsOf_5 : decode cX0_cellsOf 5 = .ok (.iconst 1, 1) := by decide +kernel
theorem dX0_cellsOf_6 : decode cX0_cellsOf 6 = .ok (.goto 4, 3) := by decide +kernel
theorem dX0_cellsOf_9 : decode cX0_cellsOf 9 = .ok (.iconst 0, 1) := by decide +kernel
theorem dX0_cellsOf_10 : decode cX0_cellsOf 10 = .ok (.istore_n 3, 1) := by decide +kernel
theorem dX0_cellsOf_11 : decode cX0_cellsOf 11 = .ok (.iload_n 1, 1) := by decide +kernel
theorem dX0_cellsOf_12 : decode cX0_cellsOf 12 = .ok (.iconst 3, 1) := by decide +kernel
theorem dX0_cellsOf_13 : decode cX0_cellsOf 13 = .ok (.if_icmp .ne 9, 3) := by decide +kernel
theorem dX0_cellsOf_16 : decode cX0_cellsOf 16 = .ok (.iload_n 3, 1) := by decide +kernel
theorem dX0_cellsOf_17 : decode cX0_cellsOf 17 = .ok (.iconst 1, 1) := by decide +kernel
theorem dX0_cellsOf_18 : decode cX0_cellsOf 18 = .ok (.iadd, 1) := by decide +kernel
theorem dX0_cellsOf_19 : decode cX0_cellsOf 19 = .ok (.goto 4, 3) := by decide +kernel
theorem dX0_cellsOf_22 : decode cX0_cellsOf 22 = .ok (.iload_n 3, 1) := by decide +kernel
theorem dX0_cellsOf_23 : decode cX0_cellsOf 23 = .ok (.istore 4, 2) := by decide +kernel
theorem dX0_cellsOf_25 : decode cX0_cellsOf 25 = .ok (.iload_n 0, 1) := by decide +kernel
theorem dX0_cellsOf_26 : decode cX0_cellsOf 26 = .ok (.tableswitch 73 1 5 #[34, 73, 37, 73, 53], 34) := by decide +kernel
theorem dX0_cellsOf_60 : decode cX0_cellsOf 60 = .ok (.iload 4, 2) := by decide +kernel
theorem dX0_cellsOf_62 : decode cX0_cellsOf 62 = .ok (.ireturn, 1) := by decide +kernel
theorem dX0_cellsOf_63 : decode cX0_cellsOf 63 = .ok (.iload_n 2, 1) := by decide +kernel
theorem dX0_cellsOf_64 : decode cX0_cellsOf 64 = .ok (.iconst 1, 1) := by decide +kernel
theorem dX0_cellsOf_65 : decode cX0_cellsOf 65 = .ok (.if_icmp .gt 12, 3) := by decide +kernel
theorem dX0_cellsOf_68 : decode cX0_cellsOf 68 = .ok (.iload_n 1, 1) := by decide +kernel
theorem dX0_cellsOf_69 : decode cX0_cellsOf 69 = .ok (.iconst 2, 1) := by decide +kernel
theorem dX0_cellsOf_70 : decode cX0_cellsOf 70 = .ok (.if_icmp .ge 7, 3) := by decide +kernel
theorem dX0_cellsOf_73 : decode cX0_cellsOf 73 = .ok (.iconst 0, 1) := by decide +kernel
theorem dX0_cellsOf_74 : decode cX0_cellsOf 74 = .ok (.goto 4, 3) := by decide +kernel
theorem dX0_cellsOf_77 : decode cX0_cellsOf 77 = .ok (.iload_n 3, 1) := by decide +kernel
theorem dX0_cellsOf_78 : decode cX0_cellsOf 78 = .ok (.ireturn, 1) := by decide +kernel
theorem dX0_cellsOf_79 : decode cX0_cellsOf 79 = .ok (.iload_n 2, 1) := by decide +kernel
theorem dX0_cellsOf_80 : decode cX0_cellsOf 80 = .ok (.iconst 3, 1) := by decide +kernel
theorem dX0_cellsOf_81 : decode cX0_cellsOf 81 = .ok (.if_icmp .lt 15, 3) := by decide +kernel
theorem dX0_cellsOf_84 : decode cX0_cellsOf 84 = .ok (.iload 4, 2) := by decide +kernel
theorem dX0_cellsOf_86 : decode cX0_cellsOf 86 = .ok (.ifCond .le 10, 3) := by decide +kernel
theorem dX0_cellsOf_89 : decode cX0_cellsOf 89 = .ok (.iload 4, 2) := by decide +kernel
theorem dX0_cellsOf_91 : decode cX0_cellsOf 91 = .ok (.iconst 1, 1) := by decide +kernel
theorem dX0_cellsOf_92 : decode cX0_cellsOf 92 = .ok (.isub, 1) := by decide +kernel
theorem dX0_cellsOf_93 : decode cX0_cellsOf 93 = .ok (.goto 5, 3) := by decide +kernel
theorem dX0_cellsOf_96 : decode cX0_cellsOf 96 = .ok (.iload 4, 2) := by decide +kernel
theorem dX0_cellsOf_98 : decode cX0_cellsOf 98 = .ok (.ireturn, 1) := by decide +kernel
theorem dX0_cellsOf_99 : decode cX0_cellsOf 99 = .ok (.iload_n 3, 1) := by decide +kernel
theorem dX0_cellsOf_100 : decode cX0_cellsOf 100 = .ok (.ireturn, 1) := by decide +kernel
set_option maxRecDepth 20000 in
theorem ggX0_tracks_X0_cellsOf : GoodIn wsX0_tracks wsX0_cellsOf := goodIn_r _ [4] (by decide +kernel) (by decide +kernel)
set_option maxRecDepth 20000 in
theorem gX0_tracks_X0_cellsOf : GoodIn wsX0_tracks (va_wsS RX0 9 yX0_cellsOf wsX0_cellsOf) := goodIn_app (goodIn_of _ (by decide +kernel)) ggX0_tracks_X0_cellsOf
set_option maxRecDepth 20000 in
theorem ggX0_tracks_X0_wayOf : GoodIn wsX0_tracks wsX0_wayOf := goodIn_r _ [7] (by decide +kernel) (by decide +kernel)
set_option maxRecDepth 20000 in
theorem gX0_tracks_X0_wayOf : GoodIn wsX0_tracks (va_wsS RX0 15 yX0_wayOf wsX0_wayOf) := goodIn_app (goodIn_of _ (by decide +kernel)) ggX0_tracks_X0_wayOf
theorem dX0_tracks_0 : decode cX0_tracks 0 = .ok (.iload_n 0, 1) := by decide +kernel
theorem dX0_tracks_1 : decode cX0_tracks 1 = .ok (.iload_n 3, 1) := by decide +kernel
theorem dX0_tracks_2 : decode cX0_tracks 2 = .ok (.iload 4, 2) := by decide +kernel
theorem dX0_tracks_4 : decode cX0_tracks 4 = .ok (.invokestatic 9, 3) := by decide +kernel
theorem dX0_tracks_7 : decode cX0_tracks 7 = .ok (.istore 5, 2) := by decide +kernel
theorem dX0_tracks_9 : decode cX0_tracks 9 = .ok (.iload 5, 2) := by decide +kernel
theorem dX0_tracks_11 : decode cX0_tracks 11 = .ok (.ifCond .ne 7, 3) := by decide +kernel
theorem dX0_tracks_14 : decode cX0_tracks 14 = .ok (.iconst 0, 1) := by decide +kernel
theorem dX0_tracks_15 : decode cX0_tracks 15 = .ok (.goto 14, 3) := by decide +kernel
theorem dX0_tracks_18 : decode cX0_tracks 18 = .ok (.iconst 4, 1) := by decide +kernel
theorem dX0_tracks_19 : decode cX0_tracks 19 = .ok (.iload 5, 2) := by decide +kernel
theorem dX0_tracks_21 : decode cX0_tracks 21 = .ok (.imul, 1) := by decide +kernel
theorem dX0_tracks_22 : decode cX0_tracks 22 = .ok (.iload_n 0, 1) := by decide +kernel
theorem dX0_tracks_23 : decode cX0_tracks 23 = .ok (.iload_n 1, 1) := by decide +kernel
theorem dX0_tracks_24 : decode cX0_tracks 24 = .ok (.iload_n 2, 1) := by decide +kernel
theorem dX0_tracks_25 : decode cX0_tracks 25 = .ok (.invokestatic 15, 3) := by decide +kernel
theorem dX0_tracks_28 : decode cX0_tracks 28 = .ok (.iadd, 1) := by decide +kernel
theorem dX0_tracks_29 : decode cX0_tracks 29 = .ok (.ireturn, 1) := by decide +kernel
set_option maxRecDepth 20000 in
theorem ggX0_cellBy_X0_cellsOf : GoodIn wsX0_cellBy wsX0_cellsOf := goodIn_r _ [11] (by decide +kernel) (by decide +kernel)
set_option maxRecDepth 20000 in
theorem gX0_cellBy_X0_cellsOf : GoodIn wsX0_cellBy (va_wsS RX0 9 yX0_cellsOf wsX0_cellsOf) := goodIn_app (goodIn_of _ (by decide +kernel)) ggX0_cellBy_X0_cellsOf
set_option maxRecDepth 20000 in
theorem ggX0_cellBy_X0_wayOf : GoodIn wsX0_cellBy wsX0_wayOf := goodIn_r _ [14] (by decide +kernel) (by decide +kernel)
set_option maxRecDepth 20000 in
theorem gX0_cellBy_X0_wayOf : GoodIn wsX0_cellBy (va_wsS RX0 15 yX0_wayOf wsX0_wayOf) := goodIn_app (goodIn_of _ (by decide +kernel)) ggX0_cellBy_X0_wayOf
theorem dX0_cellBy_0 : decode cX0_cellBy 0 = .ok (.iload_n 1, 1) := by decide +kernel
theorem dX0_cellBy_1 : decode cX0_cellBy 1 = .ok (.bipush 6, 2) := by decide +kernel
theorem dX0_cellBy_3 : decode cX0_cellBy 3 = .ok (.idiv, 1) := by decide +kernel
theorem dX0_cellBy_4 : decode cX0_cellBy 4 = .ok (.istore 5, 2) := by decide +kernel
theorem dX0_cellBy_6 : decode cX0_cellBy 6 = .ok (.iload_n 1, 1) := by decide +kernel
theorem dX0_cellBy_7 : decode cX0_cellBy 7 = .ok (.bipush 6, 2) := by decide +kernel
theorem dX0_cellBy_9 : decode cX0_cellBy 9 = .ok (.irem, 1) := by decide +kernel
theorem dX0_cellBy_10 : decode cX0_cellBy 10 = .ok (.istore 6, 2) := by decide +kernel
theorem dX0_cellBy_12 : decode cX0_cellBy 12 = .ok (.iload_n 0, 1) := by decide +kernel
theorem dX0_cellBy_13 : decode cX0_cellBy 13 = .ok (.iload 4, 2) := by decide +kernel
theorem dX0_cellBy_15 : decode cX0_cellBy 15 = .ok (.iload 6, 2) := by decide +kernel
theorem dX0_cellBy_17 : decode cX0_cellBy 17 = .ok (.invokestatic 9, 3) := by decide +kernel
theorem dX0_cellBy_20 : decode cX0_cellBy 20 = .ok (.istore 7, 2) := by decide +kernel
theorem dX0_cellBy_22 : decode cX0_cellBy 22 = .ok (.iload_n 0, 1) := by decide +kernel
theorem dX0_cellBy_23 : decode cX0_cellBy 23 = .ok (.iload_n 2, 1) := by decide +kernel
theorem dX0_cellBy_24 : decode cX0_cellBy 24 = .ok (.iload_n 3, 1) := by decide +kernel
theorem dX0_cellBy_25 : decode cX0_cellBy 25 = .ok (.invokestatic 15, 3) := by decide +kernel
theorem dX0_cellBy_28 : decode cX0_cellBy 28 = .ok (.tableswitch 76 0 2 #[28, 44, 60], 28) := by decide +kernel
theorem dX0_cellBy_56 : decode cX0_cellBy 56 = .ok (.bipush 6, 2) := by decide +kernel
theorem dX0_cellBy_58 : decode cX0_cellBy 58 = .ok (.iload 5, 2) := by decide +kernel
theorem dX0_cellBy_60 : decode cX0_cellBy 60 = .ok (.imul, 1) := by decide +kernel
theorem dX0_cellBy_61 : decode cX0_cellBy 61 = .ok (.iconst 5, 1) := by decide +kernel
theorem dX0_cellBy_62 : decode cX0_cellBy 62 = .ok (.iload 6, 2) := by decide +kernel
theorem dX0_cellBy_64 : decode cX0_cellBy 64 = .ok (.iload 7, 2) := by decide +kernel
theorem dX0_cellBy_66 : decode cX0_cellBy 66 = .ok (.iadd, 1) := by decide +kernel
theorem dX0_cellBy_67 : decode cX0_cellBy 67 = .ok (.invokestatic 18, 3) := by decide +kernel
theorem dX0_cellBy_70 : decode cX0_cellBy 70 = .ok (.iadd, 1) := by decide +kernel
theorem dX0_cellBy_71 : decode cX0_cellBy 71 = .ok (.ireturn, 1) := by decide +kernel
theorem dX0_cellBy_72 : decode cX0_cellBy 72 = .ok (.bipush 6, 2) := by decide +kernel
theorem dX0_cellBy_74 : decode cX0_cellBy 74 = .ok (.iconst 5, 1) := by decide +kernel
theorem dX0_cellBy_75 : decode cX0_cellBy 75 = .ok (.iload 5, 2) := by decide +kernel
theorem dX0_cellBy_77 : decode cX0_cellBy 77 = .ok (.iload 7, 2) := by decide +kernel
theorem dX0_cellBy_79 : decode cX0_cellBy 79 = .ok (.iadd, 1) := by decide +kernel
theorem dX0_cellBy_80 : decode cX0_cellBy 80 = .ok (.invokestatic 18, 3) := by decide +kernel
theorem dX0_cellBy_83 : decode cX0_cellBy 83 = .ok (.imul, 1) := by decide +kernel
theorem dX0_cellBy_84 : decode cX0_cellBy 84 = .ok (.iload 6, 2) := by decide +kernel
theorem dX0_cellBy_86 : decode cX0_cellBy 86 = .ok (.iadd, 1) := by decide +kernel
theorem dX0_cellBy_87 : decode cX0_cellBy 87 = .ok (.ireturn, 1) := by decide +kernel
theorem dX0_cellBy_88 : decode cX0_cellBy 88 = .ok (.bipush 6, 2) := by decide +kernel
theorem dX0_cellBy_90 : decode cX0_cellBy 90 = .ok (.iload 5, 2) := by decide +kernel
theorem dX0_cellBy_92 : decode cX0_cellBy 92 = .ok (.imul, 1) := by decide +kernel
theorem dX0_cellBy_93 : decode cX0_cellBy 93 = .ok (.iconst 0, 1) := by decide +kernel
theorem dX0_cellBy_94 : decode cX0_cellBy 94 = .ok (.iload 6, 2) := by decide +kernel
theorem dX0_cellBy_96 : decode cX0_cellBy 96 = .ok (.iload 7, 2) := by decide +kernel
theorem dX0_cellBy_98 : decode cX0_cellBy 98 = .ok (.isub, 1) := by decide +kernel
theorem dX0_cellBy_99 : decode cX0_cellBy 99 = .ok (.invokestatic 24, 3) := by decide +kernel
theorem dX0_cellBy_102 : decode cX0_cellBy 102 = .ok (.iadd, 1) := by decide +kernel
theorem dX0_cellBy_103 : decode cX0_cellBy 103 = .ok (.ireturn, 1) := by decide +kernel
theorem dX0_cellBy_104 : decode cX0_cellBy 104 = .ok (.bipush 6, 2) := by decide +kernel
theorem dX0_cellBy_106 : decode cX0_cellBy 106 = .ok (.iconst 0, 1) := by decide +kernel
theorem dX0_cellBy_107 : decode cX0_cellBy 107 = .ok (.iload 5, 2) := by decide +kernel
theorem dX0_cellBy_109 : decode cX0_cellBy 109 = .ok (.iload 7, 2) := by decide +kernel
theorem dX0_cellBy_111 : decode cX0_cellBy 111 = .ok (.isub, 1) := by decide +kernel
theorem dX0_cellBy_112 : decode cX0_cellBy 112 = .ok (.invokestatic 24, 3) := by decide +kernel
theorem dX0_cellBy_115 : decode cX0_cellBy 115 = .ok (.imul, 1) := by decide +kernel
theorem dX0_cellBy_116 : decode cX0_cellBy 116 = .ok (.iload 6, 2) := by decide +kernel
theorem dX0_cellBy_118 : decode cX0_cellBy 118 = .ok (.iadd, 1) := by decide +kernel
theorem dX0_cellBy_119 : decode cX0_cellBy 119 = .ok (.ireturn, 1) := by decide +kernel
set_option maxRecDepth 20000 in
theorem ggX1_init_J7_fill_53178 : GoodIn wsX1_init wsJ7_fill_53178 := goodIn_r _ [16] (by decide +kernel) (by decide +kernel)
set_option maxRecDepth 20000 in
theorem gX1_init_J7_fill_53178 : GoodIn wsX1_init (va_wsS RX1 36 yJ7_fill_53178 wsJ7_fill_53178) := goodIn_app (goodIn_of _ (by decide +kernel)) ggX1_init_J7_fill_53178
theorem dX1_init_0 : decode cX1_init 0 = .ok (.aload_n 0, 1) := by decide +kernel
theorem dX1_init_1 : decode cX1_init 1 = .ok (.invokespecial 3, 3) := by decide +kernel
theorem dX1_init_4 : decode cX1_init 4 = .ok (.aload_n 0, 1) := by decide +kernel
theorem dX1_init_5 : decode cX1_init 5 = .ok (.bipush 12, 2) := by decide +kernel
theorem dX1_init_7 : decode cX1_init 7 = .ok (.newarray .int, 2) := by decide +kernel
theorem dX1_init_9 : decode cX1_init 9 = .ok (.putfield 9, 3) := by decide +kernel
theorem dX1_init_12 : decode cX1_init 12 = .ok (.aload_n 0, 1) := by decide +kernel
theorem dX1_init_13 : decode cX1_init 13 = .ok (.bipush 12, 2) := by decide +kernel
theorem dX1_init_15 : decode cX1_init 15 = .ok (.newarray .int, 2) := by decide +kernel
theorem dX1_init_17 : decode cX1_init 17 = .ok (.putfield 15, 3) := by decide +kernel
theorem dX1_init_20 : decode cX1_init 20 = .ok (.aload_n 0, 1) := by decide +kernel
theorem dX1_init_21 : decode cX1_init 21 = .ok (.iconst 5, 1) := by decide +kernel
theorem dX1_init_22 : decode cX1_init 22 = .ok (.newarray .int, 2) := by decide +kernel
theorem dX1_init_24 : decode cX1_init 24 = .ok (.putfield 18, 3) := by decide +kernel
theorem dX1_init_27 : decode cX1_init 27 = .ok (.aload_n 0, 1) := by decide +kernel
theorem dX1_init_28 : decode cX1_init 28 = .ok (.iconst 5, 1) := by decide +kernel
theorem dX1_init_29 : decode cX1_init 29 = .ok (.newarray .int, 2) := by decide +kernel
theorem dX1_init_31 : decode cX1_init 31 = .ok (.putfield 21, 3) := by decide +kernel
theorem dX1_init_34 : decode cX1_init 34 = .ok (.aload_n 0, 1) := by decide +kernel
theorem dX1_init_35 : decode cX1_init 35 = .ok (.iconst 5, 1) := by decide +kernel
theorem dX1_init_36 : decode cX1_init 36 = .ok (.newarray .int, 2) := by decide +kernel
theorem dX1_init_38 : decode cX1_init 38 = .ok (.putfield 24, 3) := by decide +kernel
theorem dX1_init_41 : decode cX1_init 41 = .ok (.aload_n 0, 1) := by decide +kernel
theorem dX1_init_42 : decode cX1_init 42 = .ok (.bipush 12, 2) := by decide +kernel
theorem dX1_init_44 : decode cX1_init 44 = .ok (.newarray .int, 2) := by decide +kernel
theorem dX1_init_46 : decode cX1_init 46 = .ok (.putfield 27, 3) := by decide +kernel
theorem dX1_init_49 : decode cX1_init 49 = .ok (.aload_n 0, 1) := by decide +kernel
theorem dX1_init_50 : decode cX1_init 50 = .ok (.bipush 42, 2) := by decide +kernel
theorem dX1_init_52 : decode cX1_init 52 = .ok (.newarray .int, 2) := by decide +kernel
theorem dX1_init_54 : decode cX1_init 54 = .ok (.putfield 30, 3) := by decide +kernel
theorem dX1_init_57 : decode cX1_init 57 = .ok (.aload_n 0, 1) := by decide +kernel
theorem dX1_init_58 : decode cX1_init 58 = .ok (.bipush 88, 2) := by decide +kernel
theorem dX1_init_60 : decode cX1_init 60 = .ok (.newarray .int, 2) := by decide +kernel
theorem dX1_init_62 : decode cX1_init 62 = .ok (.putfield 33, 3) := by decide +kernel
theorem dX1_init_65 : decode cX1_init 65 = .ok (.aload_n 0, 1) := by decide +kernel
theorem dX1_init_66 : decode cX1_init 66 = .ok (.getfield 15, 3) := by decide +kernel
theorem dX1_init_69 : decode cX1_init 69 = .ok (.iconst 1, 1) := by decide +kernel
theorem dX1_init_70 : decode cX1_init 70 = .ok (.invokestatic 36, 3) := by decide +kernel
theorem dX1_init_73 : decode cX1_init 73 = .ok (.return_, 1) := by decide +kernel
set_option maxRecDepth 20000 in
theorem ggX1_begin_J7_fill_53178 : GoodIn wsX1_begin wsJ7_fill_53178 := goodIn_r _ [11] (by decide +kernel) (by decide +kernel)
set_option maxRecDepth 20000 in
theorem gX1_begin_J7_fill_53178 : GoodIn wsX1_begin (va_wsS RX1 36 yJ7_fill_53178 wsJ7_fill_53178) := goodIn_app (goodIn_of _ (by decide +kernel)) ggX1_begin_J7_fill_53178
theorem dX1_begin_0 : decode cX1_begin 0 = .ok (.aload_n 0, 1) := by decide +kernel
theorem dX1_begin_1 : decode cX1_begin 1 = .ok (.iload_n 1, 1) := by decide +kernel
theorem dX1_begin_2 : decode cX1_begin 2 = .ok (.putfield 42, 3) := by decide +kernel
theorem dX1_begin_5 : decode cX1_begin 5 = .ok (.aload_n 0, 1) := by decide +kernel
theorem dX1_begin_6 : decode cX1_begin 6 = .ok (.getfield 9, 3) := by decide +kernel
theorem dX1_begin_9 : decode cX1_begin 9 = .ok (.iconst 0, 1) := by decide +kernel
theorem dX1_begin_10 : decode cX1_begin 10 = .ok (.invokestatic 36, 3) := by decide +kernel
theorem dX1_begin_13 : decode cX1_begin 13 = .ok (.aload_n 0, 1) := by decide +kernel
theorem dX1_begin_14 : decode cX1_begin 14 = .ok (.getfield 15, 3) := by decide +kernel
theorem dX1_begin_17 : decode cX1_begin 17 = .ok (.iconst 1, 1) := by decide +kernel
theorem dX1_begin_18 : decode cX1_begin 18 = .ok (.invokestatic 36, 3) := by decide +kernel
theorem dX1_begin_21 : decode cX1_begin 21 = .ok (.aload_n 0, 1) := by decide +kernel
theorem dX1_begin_22 : decode cX1_begin 22 = .ok (.iconst 0, 1) := by decide +kernel
theorem dX1_begin_23 : decode cX1_begin 23 = .ok (.putfield 46, 3) := by decide +kernel
theorem dX1_begin_26 : decode cX1_begin 26 = .ok (.aload_n 0, 1) := by decide +kernel
theorem dX1_begin_27 : decode cX1_begin 27 = .ok (.iconst 0, 1) := by decide +kernel
theorem dX1_begin_28 : decode cX1_begin 28 = .ok (.putfield 49, 3) := by decide +kernel
theorem dX1_begin_31 : decode cX1_begin 31 = .ok (.aload_n 0, 1) := by decide +kernel
theorem dX1_begin_32 : decode cX1_begin 32 = .ok (.iconst 0, 1) := by decide +kernel
theorem dX1_begin_33 : decode cX1_begin 33 = .ok (.putfield 52, 3) := by decide +kernel
theorem dX1_begin_36 : decode cX1_begin 36 = .ok (.aload_n 0, 1) := by decide +kernel
theorem dX1_begin_37 : decode cX1_begin 37 = .ok (.iconst 0, 1) := by decide +kernel
theorem dX1_begin_38 : decode cX1_begin 38 = .ok (.putfield 55, 3) := by decide +kernel
theorem dX1_begin_41 : decode cX1_begin 41 = .ok (.return_, 1) := by decide +kernel
theorem dX1_takeFrom_0 : decode cX1_takeFrom 0 = .ok (.aload_n 0, 1) := by decide +kernel
theorem dX1_takeFrom_1 : decode cX1_takeFrom 1 = .ok (.aload_n 1, 1) := by decide +kernel
theorem dX1_takeFrom_2 : decode cX1_takeFrom 2 = .ok (.getfield 42, 3) := by decide +kernel
theorem dX1_takeFrom_5 : decode cX1_takeFrom 5 = .ok (.putfield 42, 3) := by decide +kernel
theorem dX1_takeFrom_8 : decode cX1_takeFrom 8 = .ok (.aload_n 1, 1) := by decide +kernel
theorem dX1_takeFrom_9 : decode cX1_takeFrom 9 = .ok (.getfield 9, 3) := by decide +kernel
theorem dX1_takeFrom_12 : decode cX1_takeFrom 12 = .ok (.iconst 0, 1) := by decide +kernel
theorem dX1_takeFrom_13 : decode cX1_takeFrom 13 = .ok (.aload_n 0, 1) := by decide +kernel
theorem dX1_takeFrom_14 : decode cX1_takeFrom 14 = .ok (.getfield 9, 3) := by decide +kernel
theorem dX1_takeFrom_17 : decode cX1_takeFrom 17 = .ok (.iconst 0, 1) := by decide +kernel
theorem dX1_takeFrom_18 : decode cX1_takeFrom 18 = .ok (.bipush 12, 2) := by decide +kernel
theorem dX1_takeFrom_20 : decode cX1_takeFrom 20 = .ok (.invokestatic 58, 3) := by decide +kernel
theorem dX1_takeFrom_23 : decode cX1_takeFrom 23 = .ok (.aload_n 1, 1) := by decide +kernel
theorem dX1_takeFrom_24 : decode cX1_takeFrom 24 = .ok (.getfield 15, 3) := by decide +kernel
theorem dX1_takeFrom_27 : decode cX1_takeFrom 27 = .ok (.iconst 0, 1) := by decide +kernel
theorem dX1_takeFrom_28 : decode cX1_takeFrom 28 = .ok (.aload_n 0, 1) := by decide +kernel
theorem dX1_takeFrom_29 : decode cX1_takeFrom 29 = .ok (.getfield 15, 3) := by decide +kernel
theorem dX1_takeFrom_32 : decode cX1_takeFrom 32 = .ok (.iconst 0, 1) := by decide +kernel
theorem dX1_takeFrom_33 : decode cX1_takeFrom 33 = .ok (.bipush 12, 2) := by decide +kernel
theorem dX1_takeFrom_35 : decode cX1_takeFrom 35 = .ok (.invokestatic 58, 3) := by decide +kernel
theorem dX1_takeFrom_38 : decode cX1_takeFrom 38 = .ok (.aload_n 0, 1) := by decide +kernel
theorem dX1_takeFrom_39 : decode cX1_takeFrom 39 = .ok (.aload_n 1, 1) := by decide +kernel
theorem dX1_takeFrom_40 : decode cX1_takeFrom 40 = .ok (.getfield 46, 3) := by decide +kernel
theorem dX1_takeFrom_43 : decode cX1_takeFrom 43 = .ok (.putfield 46, 3) := by decide +kernel
theorem dX1_takeFrom_46 : decode cX1_takeFrom 46 = .ok (.aload_n 1, 1) := by decide +kernel
theorem dX1_takeFrom_47 : decode cX1_takeFrom 47 = .ok (.getfield 18, 3) := by decide +kernel
theorem dX1_takeFrom_50 : decode cX1_takeFrom 50 = .ok (.iconst 0, 1) := by decide +kernel
theorem dX1_takeFrom_51 : decode cX1_takeFrom 51 = .ok (.aload_n 0, 1) := by decide +kernel
theorem dX1_takeFrom_52 : decode cX1_takeFrom 52 = .ok (.getfield 18, 3) := by decide +kernel
theorem dX1_takeFrom_55 : decode cX1_takeFrom 55 = .ok (.iconst 0, 1) := by decide +kernel
theorem dX1_takeFrom_56 : decode cX1_takeFrom 56 = .ok (.iconst 5, 1) := by decide +kernel
theorem dX1_takeFrom_57 : decode cX1_takeFrom 57 = .ok (.invokestatic 58, 3) := by decide +kernel
theorem dX1_takeFrom_60 : decode cX1_takeFrom 60 = .ok (.aload_n 1, 1) := by decide +kernel
theorem dX1_takeFrom_61 : decode cX1_takeFrom 61 = .ok (.getfield 21, 3) := by decide +kernel
theorem dX1_takeFrom_64 : decode cX1_takeFrom 64 = .ok (.iconst 0, 1) := by decide +kernel
theorem dX1_takeFrom_65 : decode cX1_takeFrom 65 = .ok (.aload_n 0, 1) := by decide +kernel
theorem dX1_takeFrom_66 : decode cX1_takeFrom 66 = .ok (.getfield 21, 3) := by decide +kernel
theorem dX1_takeFrom_69 : decode cX1_takeFrom 69 = .ok (.iconst 0, 1) := by decide +kernel
theorem dX1_takeFrom_70 : decode cX1_takeFrom 70 = .ok (.iconst 5, 1) := by decide +kernel
theorem dX1_takeFrom_71 : decode cX1_takeFrom 71 = .ok (.invokestatic 58, 3) := by decide +kernel
theorem dX1_takeFrom_74 : decode cX1_takeFrom 74 = .ok (.aload_n 1, 1) := by decide +kernel
theorem dX1_takeFrom_75 : decode cX1_takeFrom 75 = .ok (.getfield 24, 3) := by decide +kernel
theorem dX1_takeFrom_78 : decode cX1_takeFrom 78 = .ok (.iconst 0, 1) := by decide +kernel
theorem dX1_takeFrom_79 : decode cX1_takeFrom 79 = .ok (.aload_n 0, 1) := by decide +kernel
theorem dX1_takeFrom_80 : decode cX1_takeFrom 80 = .ok (.getfield 24, 3) := by decide +kernel
theorem dX1_takeFrom_83 : decode cX1_takeFrom 83 = .ok (.iconst 0, 1) := by decide +kernel
theorem dX1_takeFrom_84 : decode cX1_takeFrom 84 = .ok (.iconst 5, 1) := by decide +kernel
theorem dX1_takeFrom_85 : decode cX1_takeFrom 85 = .ok (.invokestatic 58, 3) := by decide +kernel
theorem dX1_takeFrom_88 : decode cX1_takeFrom 88 = .ok (.aload_n 0, 1) := by decide +kernel
theorem dX1_takeFrom_89 : decode cX1_takeFrom 89 = .ok (.aload_n 1, 1) := by decide +kernel
theorem dX1_takeFrom_90 : decode cX1_takeFrom 90 = .ok (.getfield 49, 3) := by decide +kernel
theorem dX1_takeFrom_93 : decode cX1_takeFrom 93 = .ok (.putfield 49, 3) := by decide +kernel
theorem dX1_takeFrom_96 : decode cX1_takeFrom 96 = .ok (.aload_n 1, 1) := by decide +kernel
theorem dX1_takeFrom_97 : decode cX1_takeFrom 97 = .ok (.getfield 27, 3) := by decide +kernel
theorem dX1_takeFrom_100 : decode cX1_takeFrom 100 = .ok (.iconst 0, 1) := by decide +kernel
theorem dX1_takeFrom_101 : decode cX1_takeFrom 101 = .ok (.aload_n 0, 1) := by decide +kernel
theorem dX1_takeFrom_102 : decode cX1_takeFrom 102 = .ok (.getfield 27, 3) := by decide +kernel
theorem dX1_takeFrom_105 : decode cX1_takeFrom 105 = .ok (.iconst 0, 1) := by decide +kernel
theorem dX1_takeFrom_106 : decode cX1_takeFrom 106 = .ok (.bipush 12, 2) := by decide +kernel
theorem dX1_takeFrom_108 : decode cX1_takeFrom 108 = .ok (.invokestatic 58, 3) := by decide +kernel
theorem dX1_takeFrom_111 : decode cX1_takeFrom 111 = .ok (.aload_n 0, 1) := by decide +kernel
theorem dX1_takeFrom_112 : decode cX1_takeFrom 112 = .ok (.aload_n 1, 1) := by decide +kernel
theorem dX1_takeFrom_113 : decode cX1_takeFrom 113 = .ok (.getfield 52, 3) := by decide +kernel
theorem dX1_takeFrom_116 : decode cX1_takeFrom 116 = .ok (.putfield 52, 3) := by decide +kernel
theorem dX1_takeFrom_119 : decode cX1_takeFrom 119 = .ok (.aload_n 1, 1) := by decide +kernel
theorem dX1_takeFrom_120 : decode cX1_takeFrom 120 = .ok (.getfield 30, 3) := by decide +kernel
theorem dX1_takeFrom_123 : decode cX1_takeFrom 123 = .ok (.iconst 0, 1) := by decide +kernel
theorem dX1_takeFrom_124 : decode cX1_takeFrom 124 = .ok (.aload_n 0, 1) := by decide +kernel
theorem dX1_takeFrom_125 : decode cX1_takeFrom 125 = .ok (.getfield 30, 3) := by decide +kernel
theorem dX1_takeFrom_128 : decode cX1_takeFrom 128 = .ok (.iconst 0, 1) := by decide +kernel
theorem dX1_takeFrom_129 : decode cX1_takeFrom 129 = .ok (.bipush 42, 2) := by decide +kernel
theorem dX1_takeFrom_131 : decode cX1_takeFrom 131 = .ok (.invokestatic 58, 3) := by decide +kernel
theorem dX1_takeFrom_134 : decode cX1_takeFrom 134 = .ok (.aload_n 0, 1) := by decide +kernel
theorem dX1_takeFrom_135 : decode cX1_takeFrom 135 = .ok (.aload_n 1, 1) := by decide +kernel
theorem dX1_takeFrom_136 : decode cX1_takeFrom 136 = .ok (.getfield 55, 3) := by decide +kernel
theorem dX1_takeFrom_139 : decode cX1_takeFrom 139 = .ok (.putfield 55, 3) := by decide +kernel
theorem dX1_takeFrom_142 : decode cX1_takeFrom 142 = .ok (.aload_n 1, 1) := by decide +kernel
theorem dX1_takeFrom_143 : decode cX1_takeFrom 143 = .ok (.getfield 33, 3) := by decide +kernel
theorem dX1_takeFrom_146 : decode cX1_takeFrom 146 = .ok (.iconst 0, 1) := by decide +kernel
theorem dX1_takeFrom_147 : decode cX1_takeFrom 147 = .ok (.aload_n 0, 1) := by decide +kernel
theorem dX1_takeFrom_148 : decode cX1_takeFrom 148 = .ok (.getfield 33, 3) := by decide +kernel
theorem dX1_takeFrom_151 : decode cX1_takeFrom 151 = .ok (.iconst 0, 1) := by decide +kernel
theorem dX1_takeFrom_152 : decode cX1_takeFrom 152 = .ok (.bipush 88, 2) := by decide +kernel
theorem dX1_takeFrom_154 : decode cX1_takeFrom 154 = .ok (.invokestatic 58, 3) := by decide +kernel
theorem dX1_takeFrom_157 : decode cX1_takeFrom 157 = .ok (.return_, 1) := by decide +kernel
theorem dX1_tellWind_0 : decode cX1_tellWind 0 = .ok (.aload_n 0, 1) := by decide +kernel
theorem dX1_tellWind_1 : decode cX1_tellWind 1 = .ok (.getfield 9, 3) := by decide +kernel
theorem dX1_tellWind_4 : decode cX1_tellWind 4 = .ok (.iload_n 1, 1) := by decide +kernel
theorem dX1_tellWind_5 : decode cX1_tellWind 5 = .ok (.iload_n 2, 1) := by decide +kernel
theorem dX1_tellWind_6 : decode cX1_tellWind 6 = .ok (.iastore, 1) := by decide +kernel
theorem dX1_tellWind_7 : decode cX1_tellWind 7 = .ok (.aload_n 0, 1) := by decide +kernel
theorem dX1_tellWind_8 : decode cX1_tellWind 8 = .ok (.getfield 15, 3) := by decide +kernel
theorem dX1_tellWind_11 : decode cX1_tellWind 11 = .ok (.iload_n 1, 1) := by decide +kernel
theorem dX1_tellWind_12 : decode cX1_tellWind 12 = .ok (.iload_n 3, 1) := by decide +kernel
theorem dX1_tellWind_13 : decode cX1_tellWind 13 = .ok (.iastore, 1) := by decide +kernel
theorem dX1_tellWind_14 : decode cX1_tellWind 14 = .ok (.aload_n 0, 1) := by decide +kernel
theorem dX1_tellWind_15 : decode cX1_tellWind 15 = .ok (.iconst 0, 1) := by decide +kernel
theorem dX1_tellWind_16 : decode cX1_tellWind 16 = .ok (.putfield 55, 3) := by decide +kernel
theorem dX1_tellWind_19 : decode cX1_tellWind 19 = .ok (.return_, 1) := by decide +kernel
theorem dX1_addFloe_0 : decode cX1_addFloe 0 = .ok (.aload_n 0, 1) := by decide +kernel
theorem dX1_addFloe_1 : decode cX1_addFloe 1 = .ok (.getfield 18, 3) := by decide +kernel
theorem dX1_addFloe_4 : decode cX1_addFloe 4 = .ok (.aload_n 0, 1) := by decide +kernel
theorem dX1_addFloe_5 : decode cX1_addFloe 5 = .ok (.getfield 46, 3) := by decide +kernel
theorem dX1_addFloe_8 : decode cX1_addFloe 8 = .ok (.iload_n 1, 1) := by decide +kernel
theorem dX1_addFloe_9 : decode cX1_addFloe 9 = .ok (.iastore, 1) := by decide +kernel
theorem dX1_addFloe_10 : decode cX1_addFloe 10 = .ok (.aload_n 0, 1) := by decide +kernel
theorem dX1_addFloe_11 : decode cX1_addFloe 11 = .ok (.getfield 21, 3) := by decide +kernel
theorem dX1_addFloe_14 : decode cX1_addFloe 14 = .ok (.aload_n 0, 1) := by decide +kernel
theorem dX1_addFloe_15 : decode cX1_addFloe 15 = .ok (.getfield 46, 3) := by decide +kernel
theorem dX1_addFloe_18 : decode cX1_addFloe 18 = .ok (.iload_n 2, 1) := by decide +kernel
theorem dX1_addFloe_19 : decode cX1_addFloe 19 = .ok (.iastore, 1) := by decide +kernel
theorem dX1_addFloe_20 : decode cX1_addFloe 20 = .ok (.aload_n 0, 1) := by decide +kernel
theorem dX1_addFloe_21 : decode cX1_addFloe 21 = .ok (.getfield 24, 3) := by decide +kernel
theorem dX1_addFloe_24 : decode cX1_addFloe 24 = .ok (.aload_n 0, 1) := by decide +kernel
theorem dX1_addFloe_25 : decode cX1_addFloe 25 = .ok (.getfield 46, 3) := by decide +kernel
theorem dX1_addFloe_28 : decode cX1_addFloe 28 = .ok (.iload_n 3, 1) := by decide +kernel
theorem dX1_addFloe_29 : decode cX1_addFloe 29 = .ok (.iastore, 1) := by decide +kernel
theorem dX1_addFloe_30 : decode cX1_addFloe 30 = .ok (.aload_n 0, 1) := by decide +kernel
theorem dX1_addFloe_31 : decode cX1_addFloe 31 = .ok (.dup, 1) := by decide +kernel
theorem dX1_addFloe_32 : decode cX1_addFloe 32 = .ok (.getfield 46, 3) := by decide +kernel
theorem dX1_addFloe_35 : decode cX1_addFloe 35 = .ok (.iconst 1, 1) := by decide +kernel
theorem dX1_addFloe_36 : decode cX1_addFloe 36 = .ok (.iadd, 1) := by decide +kernel
theorem dX1_addFloe_37 : decode cX1_addFloe 37 = .ok (.putfield 46, 3) := by decide +kernel
theorem dX1_addFloe_40 : decode cX1_addFloe 40 = .ok (.aload_n 0, 1) := by decide +kernel
theorem dX1_addFloe_41 : decode cX1_addFloe 41 = .ok (.iconst 0, 1) := by decide +kernel
theorem dX1_addFloe_42 : decode cX1_addFloe 42 = .ok (.putfield 55, 3) := by decide +kernel
theorem dX1_addFloe_45 : decode cX1_addFloe 45 = .ok (.return_, 1) := by decide +kernel
theorem dX1_addFound_0 : decode cX1_addFound 0 = .ok (.iconst 3, 1) := by decide +kernel
theorem dX1_addFound_1 : decode cX1_addFound 1 = .ok (.aload_n 0, 1) := by decide +kernel
theorem dX1_addFound_2 : decode cX1_addFound 2 = .ok (.getfield 49, 3) := by decide +kernel
theorem dX1_addFound_5 : decode cX1_addFound 5 = .ok (.imul, 1) := by decide +kernel
theorem dX1_addFound_6 : decode cX1_addFound 6 = .ok (.istore 4, 2) := by decide +kernel
theorem dX1_addFound_8 : decode cX1_addFound 8 = .ok (.aload_n 0, 1) := by decide +kernel
theorem dX1_addFound_9 : decode cX1_addFound 9 = .ok (.getfield 27, 3) := by decide +kernel
theorem dX1_addFound_12 : decode cX1_addFound 12 = .ok (.iload 4, 2) := by decide +kernel
theorem dX1_addFound_14 : decode cX1_addFound 14 = .ok (.iload_n 1, 1) := by decide +kernel
theorem dX1_addFound_15 : decode cX1_addFound 15 = .ok (.iastore, 1) := by decide +kernel
theorem dX1_addFound_16 : decode cX1_addFound 16 = .ok (.aload_n 0, 1) := by decide +kernel
theorem dX1_addFound_17 : decode cX1_addFound 17 = .ok (.getfield 27, 3) := by decide +kernel
theorem dX1_addFound_20 : decode cX1_addFound 20 = .ok (.iload 4, 2) := by decide +kernel
theorem dX1_addFound_22 : decode cX1_addFound 22 = .ok (.iconst 1, 1) := by decide +kernel
theorem dX1_addFound_23 : decode cX1_addFound 23 = .ok (.iadd, 1) := by decide +kernel
theorem dX1_addFound_24 : decode cX1_addFound 24 = .ok (.iload_n 2, 1) := by decide +kernel
theorem dX1_addFound_25 : decode cX1_addFound 25 = .ok (.iastore, 1) := by decide +kernel
theorem dX1_addFound_26 : decode cX1_addFound 26 = .ok (.aload_n 0, 1) := by decide +kernel
theorem dX1_addFound_27 : decode cX1_addFound 27 = .ok (.getfield 27, 3) := by decide +kernel
theorem dX1_addFound_30 : decode cX1_addFound 30 = .ok (.iload 4, 2) := by decide +kernel
theorem dX1_addFound_32 : decode cX1_addFound 32 = .ok (.iconst 2, 1) := by decide +kernel
theorem dX1_addFound_33 : decode cX1_addFound 33 = .ok (.iadd, 1) := by decide +kernel
theorem dX1_addFound_34 : decode cX1_addFound 34 = .ok (.iload_n 3, 1) := by decide +kernel
theorem dX1_addFound_35 : decode cX1_addFound 35 = .ok (.iastore, 1) := by decide +kernel
theorem dX1_addFound_36 : decode cX1_addFound 36 = .ok (.aload_n 0, 1) := by decide +kernel
theorem dX1_addFound_37 : decode cX1_addFound 37 = .ok (.dup, 1) := by decide +kernel
theorem dX1_addFound_38 : decode cX1_addFound 38 = .ok (.getfield 49, 3) := by decide +kernel
theorem dX1_addFound_41 : decode cX1_addFound 41 = .ok (.iconst 1, 1) := by decide +kernel
theorem dX1_addFound_42 : decode cX1_addFound 42 = .ok (.iadd, 1) := by decide +kernel
theorem dX1_addFound_43 : decode cX1_addFound 43 = .ok (.putfield 49, 3) := by decide +kernel
theorem dX1_addFound_46 : decode cX1_addFound 46 = .ok (.return_, 1) := by decide +kernel
theorem dX1_addNote_0 : decode cX1_addNote 0 = .ok (.bipush 7, 2) := by decide +kernel
theorem dX1_addNote_2 : decode cX1_addNote 2 = .ok (.aload_n 0, 1) := by decide +kernel
theorem dX1_addNote_3 : decode cX1_addNote 3 = .ok (.getfield 52, 3) := by decide +kernel
theorem dX1_addNote_6 : decode cX1_addNote 6 = .ok (.imul, 1) := by decide +kernel
theorem dX1_addNote_7 : decode cX1_addNote 7 = .ok (.istore 8, 2) := by decide +kernel
theorem dX1_addNote_9 : decode cX1_addNote 9 = .ok (.aload_n 0, 1) := by decide +kernel
theorem dX1_addNote_10 : decode cX1_addNote 10 = .ok (.getfield 30, 3) := by decide +kernel
theorem dX1_addNote_13 : decode cX1_addNote 13 = .ok (.iload 8, 2) := by decide +kernel
theorem dX1_addNote_15 : decode cX1_addNote 15 = .ok (.iload_n 1, 1) := by decide +kernel
theorem dX1_addNote_16 : decode cX1_addNote 16 = .ok (.iastore, 1) := by decide +kernel
theorem dX1_addNote_17 : decode cX1_addNote 17 = .ok (.aload_n 0, 1) := by decide +kernel
theorem dX1_addNote_18 : decode cX1_addNote 18 = .ok (.getfield 30, 3) := by decide +kernel
theorem dX1_addNote_21 : decode cX1_addNote 21 = .ok (.iload 8, 2) := by decide +kernel
theorem dX1_addNote_23 : decode cX1_addNote 23 = .ok (.iconst 1, 1) := by decide +kernel
theorem dX1_addNote_24 : decode cX1_addNote 24 = .ok (.iadd, 1) := by decide +kernel
theorem dX1_addNote_25 : decode cX1_addNote 25 = .ok (.iload_n 2, 1) := by decide +kernel
theorem dX1_addNote_26 : decode cX1_addNote 26 = .ok (.iastore, 1) := by decide +kernel
theorem dX1_addNote_27 : decode cX1_addNote 27 = .ok (.aload_n 0, 1) := by decide +kernel
theorem dX1_addNote_28 : decode cX1_addNote 28 = .ok (.getfield 30, 3) := by decide +kernel
theorem dX1_addNote_31 : decode cX1_addNote 31 = .ok (.iload 8, 2) := by decide +kernel
theorem dX1_addNote_33 : decode cX1_addNote 33 = .ok (.iconst 2, 1) := by decide +kernel
theorem dX1_addNote_34 : decode cX1_addNote 34 = .ok (.iadd, 1) := by decide +kernel
theorem dX1_addNote_35 : decode cX1_addNote 35 = .ok (.iload_n 3, 1) := by decide +kernel
theorem dX1_addNote_36 : decode cX1_addNote 36 = .ok (.iastore, 1) := by decide +kernel
theorem dX1_addNote_37 : decode cX1_addNote 37 = .ok (.aload_n 0, 1) := by decide +kernel
theorem dX1_addNote_38 : decode cX1_addNote 38 = .ok (.getfield 30, 3) := by decide +kernel
theorem dX1_addNote_41 : decode cX1_addNote 41 = .ok (.iload 8, 2) := by decide +kernel
theorem dX1_addNote_43 : decode cX1_addNote 43 = .ok (.iconst 3, 1) := by decide +kernel
theorem dX1_addNote_44 : decode cX1_addNote 44 = .ok (.iadd, 1) := by decide +kernel
theorem dX1_addNote_45 : decode cX1_addNote 45 = .ok (.iload 4, 2) := by decide +kernel
theorem dX1_addNote_47 : decode cX1_addNote 47 = .ok (.iastore, 1) := by decide +kernel
theorem dX1_addNote_48 : decode cX1_addNote 48 = .ok (.aload_n 0, 1) := by decide +kernel
theorem dX1_addNote_49 : decode cX1_addNote 49 = .ok (.getfield 30, 3) := by decide +kernel
theorem dX1_addNote_52 : decode cX1_addNote 52 = .ok (.iload 8, 2) := by decide +kernel
theorem dX1_addNote_54 : decode cX1_addNote 54 = .ok (.iconst 4, 1) := by decide +kernel
theorem dX1_addNote_55 : decode cX1_addNote 55 = .ok (.iadd, 1) := by decide +kernel
theorem dX1_addNote_56 : decode cX1_addNote 56 = .ok (.iload 5, 2) := by decide +kernel
theorem dX1_addNote_58 : decode cX1_addNote 58 = .ok (.iastore, 1) := by decide +kernel
theorem dX1_addNote_59 : decode cX1_addNote 59 = .ok (.aload_n 0, 1) := by decide +kernel
theorem dX1_addNote_60 : decode cX1_addNote 60 = .ok (.getfield 30, 3) := by decide +kernel
theorem dX1_addNote_63 : decode cX1_addNote 63 = .ok (.iload 8, 2) := by decide +kernel
theorem dX1_addNote_65 : decode cX1_addNote 65 = .ok (.iconst 5, 1) := by decide +kernel
theorem dX1_addNote_66 : decode cX1_addNote 66 = .ok (.iadd, 1) := by decide +kernel
theorem dX1_addNote_67 : decode cX1_addNote 67 = .ok (.iload 6, 2) := by decide +kernel
theorem dX1_addNote_69 : decode cX1_addNote 69 = .ok (.iastore, 1) := by decide +kernel
theorem dX1_addNote_70 : decode cX1_addNote 70 = .ok (.aload_n 0, 1) := by decide +kernel
theorem dX1_addNote_71 : decode cX1_addNote 71 = .ok (.getfield 30, 3) := by decide +kernel
theorem dX1_addNote_74 : decode cX1_addNote 74 = .ok (.iload 8, 2) := by decide +kernel
theorem dX1_addNote_76 : decode cX1_addNote 76 = .ok (.bipush 6, 2) := by decide +kernel
theorem dX1_addNote_78 : decode cX1_addNote 78 = .ok (.iadd, 1) := by decide +kernel
theorem dX1_addNote_79 : decode cX1_addNote 79 = .ok (.iload 7, 2) := by decide +kernel
theorem dX1_addNote_81 : decode cX1_addNote 81 = .ok (.iastore, 1) := by decide +kernel
theorem dX1_addNote_82 : decode cX1_addNote 82 = .ok (.aload_n 0, 1) := by decide +kernel
theorem dX1_addNote_83 : decode cX1_addNote 83 = .ok (.dup, 1) := by decide +kernel
theorem dX1_addNote_84 : decode cX1_addNote 84 = .ok (.getfield 52, 3) := by decide +kernel
theorem dX1_addNote_87 : decode cX1_addNote 87 = .ok (.iconst 1, 1) := by decide +kernel
theorem dX1_addNote_88 : decode cX1_addNote 88 = .ok (.iadd, 1) := by decide +kernel
theorem dX1_addNote_89 : decode cX1_addNote 89 = .ok (.putfield 52, 3) := by decide +kernel
theorem dX1_addNote_92 : decode cX1_addNote 92 = .ok (.return_, 1) := by decide +kernel
set_option maxRecDepth 20000 in
theorem ggX1_passMonth_X1_nextCell : GoodIn wsX1_passMonth wsX1_nextCell := goodIn_r _ [14, 15, 16, 17, 18, 19, 20, 21, 22, 8, 23, 24, 7, 9, 25, 26, 27, 28, 29, 30, 31, 32, 33, 34, 35, 36, 37, 38, 39, 40, 41, 42, 43] (by decide +kernel) (by decide +kernel)
set_option maxRecDepth 20000 in
theorem gX1_passMonth_X1_nextCell : GoodIn wsX1_passMonth (wsV RX1 64 RX1 yX1_nextCell wsX1_nextCell) := goodIn_app (goodIn_of _ (by decide +kernel)) ggX1_passMonth_X1_nextCell
theorem dX1_passMonth_0 : decode cX1_passMonth 0 = .ok (.aload_n 0, 1) := by decide +kernel
theorem dX1_passMonth_1 : decode cX1_passMonth 1 = .ok (.getfield 42, 3) := by decide +kernel
theorem dX1_passMonth_4 : decode cX1_passMonth 4 = .ok (.sipush 999, 3) := by decide +kernel
theorem dX1_passMonth_7 : decode cX1_passMonth 7 = .ok (.if_icmp .lt 4, 3) := by decide +kernel
theorem dX1_passMonth_10 : decode cX1_passMonth 10 = .ok (.return_, 1) := by decide +kernel
theorem dX1_passMonth_11 : decode cX1_passMonth 11 = .ok (.iconst 0, 1) := by decide +kernel
theorem dX1_passMonth_12 : decode cX1_passMonth 12 = .ok (.istore_n 1, 1) := by decide +kernel
theorem dX1_passMonth_13 : decode cX1_passMonth 13 = .ok (.iload_n 1, 1) := by decide +kernel
theorem dX1_passMonth_14 : decode cX1_passMonth 14 = .ok (.aload_n 0, 1) := by decide +kernel
theorem dX1_passMonth_15 : decode cX1_passMonth 15 = .ok (.getfield 46, 3) := by decide +kernel
theorem dX1_passMonth_18 : decode cX1_passMonth 18 = .ok (.if_icmp .ge 53, 3) := by decide +kernel
theorem dX1_passMonth_21 : decode cX1_passMonth 21 = .ok (.aload_n 0, 1) := by decide +kernel
theorem dX1_passMonth_22 : decode cX1_passMonth 22 = .ok (.getfield 21, 3) := by decide +kernel
theorem dX1_passMonth_25 : decode cX1_passMonth 25 = .ok (.iload_n 1, 1) := by decide +kernel
theorem dX1_passMonth_26 : decode cX1_passMonth 26 = .ok (.aload_n 0, 1) := by decide +kernel
theorem dX1_passMonth_27 : decode cX1_passMonth 27 = .ok (.aload_n 0, 1) := by decide +kernel
theorem dX1_passMonth_28 : decode cX1_passMonth 28 = .ok (.getfield 18, 3) := by decide +kernel
theorem dX1_passMonth_31 : decode cX1_passMonth 31 = .ok (.iload_n 1, 1) := by decide +kernel
theorem dX1_passMonth_32 : decode cX1_passMonth 32 = .ok (.iaload, 1) := by decide +kernel
theorem dX1_passMonth_33 : decode cX1_passMonth 33 = .ok (.aload_n 0, 1) := by decide +kernel
theorem dX1_passMonth_34 : decode cX1_passMonth 34 = .ok (.getfield 21, 3) := by decide +kernel
theorem dX1_passMonth_37 : decode cX1_passMonth 37 = .ok (.iload_n 1, 1) := by decide +kernel
theorem dX1_passMonth_38 : decode cX1_passMonth 38 = .ok (.iaload, 1) := by decide +kernel
theorem dX1_passMonth_39 : decode cX1_passMonth 39 = .ok (.aload_n 0, 1) := by decide +kernel
theorem dX1_passMonth_40 : decode cX1_passMonth 40 = .ok (.getfield 42, 3) := by decide +kernel
theorem dX1_passMonth_43 : decode cX1_passMonth 43 = .ok (.invokevirtual 64, 3) := by decide +kernel
theorem dX1_passMonth_46 : decode cX1_passMonth 46 = .ok (.iastore, 1) := by decide +kernel
theorem dX1_passMonth_47 : decode cX1_passMonth 47 = .ok (.aload_n 0, 1) := by decide +kernel
theorem dX1_passMonth_48 : decode cX1_passMonth 48 = .ok (.getfield 24, 3) := by decide +kernel
theorem dX1_passMonth_51 : decode cX1_passMonth 51 = .ok (.iload_n 1, 1) := by decide +kernel
theorem dX1_passMonth_52 : decode cX1_passMonth 52 = .ok (.iconst 0, 1) := by decide +kernel
theorem dX1_passMonth_53 : decode cX1_passMonth 53 = .ok (.aload_n 0, 1) := by decide +kernel
theorem dX1_passMonth_54 : decode cX1_passMonth 54 = .ok (.getfield 24, 3) := by decide +kernel
theorem dX1_passMonth_57 : decode cX1_passMonth 57 = .ok (.iload_n 1, 1) := by decide +kernel
theorem dX1_passMonth_58 : decode cX1_passMonth 58 = .ok (.iaload, 1) := by decide +kernel
theorem dX1_passMonth_59 : decode cX1_passMonth 59 = .ok (.iconst 1, 1) := by decide +kernel
theorem dX1_passMonth_60 : decode cX1_passMonth 60 = .ok (.isub, 1) := by decide +kernel
theorem dX1_passMonth_61 : decode cX1_passMonth 61 = .ok (.invokestatic 68, 3) := by decide +kernel
theorem dX1_passMonth_64 : decode cX1_passMonth 64 = .ok (.iastore, 1) := by decide +kernel
theorem dX1_passMonth_65 : decode cX1_passMonth 65 = .ok (.iinc 1 1, 3) := by decide +kernel
theorem dX1_passMonth_68 : decode cX1_passMonth 68 = .ok (.goto (-55), 3) := by decide +kernel
theorem dX1_passMonth_71 : decode cX1_passMonth 71 = .ok (.aload_n 0, 1) := by decide +kernel
theorem dX1_passMonth_72 : decode cX1_passMonth 72 = .ok (.dup, 1) := by decide +kernel
theorem dX1_passMonth_73 : decode cX1_passMonth 73 = .ok (.getfield 42, 3) := by decide +kernel
theorem dX1_passMonth_76 : decode cX1_passMonth 76 = .ok (.iconst 1, 1) := by decide +kernel
theorem dX1_passMonth_77 : decode cX1_passMonth 77 = .ok (.iadd, 1) := by decide +kernel
theorem dX1_passMonth_78 : decode cX1_passMonth 78 = .ok (.putfield 42, 3) := by decide +kernel
theorem dX1_passMonth_81 : decode cX1_passMonth 81 = .ok (.return_, 1) := by decide +kernel
theorem dX1_keepToUndo_0 : decode cX1_keepToUndo 0 = .ok (.aload_n 0, 1) := by decide +kernel
theorem dX1_keepToUndo_1 : decode cX1_keepToUndo 1 = .ok (.getfield 55, 3) := by decide +kernel
theorem dX1_keepToUndo_4 : decode cX1_keepToUndo 4 = .ok (.bipush 8, 2) := by decide +kernel
theorem dX1_keepToUndo_6 : decode cX1_keepToUndo 6 = .ok (.if_icmp .ne 29, 3) := by decide +kernel
theorem dX1_keepToUndo_9 : decode cX1_keepToUndo 9 = .ok (.aload_n 0, 1) := by decide +kernel
theorem dX1_keepToUndo_10 : decode cX1_keepToUndo 10 = .ok (.getfield 33, 3) := by decide +kernel
theorem dX1_keepToUndo_13 : decode cX1_keepToUndo 13 = .ok (.bipush 11, 2) := by decide +kernel
theorem dX1_keepToUndo_15 : decode cX1_keepToUndo 15 = .ok (.aload_n 0, 1) := by decide +kernel
theorem dX1_keepToUndo_16 : decode cX1_keepToUndo 16 = .ok (.getfield 33, 3) := by decide +kernel
theorem dX1_keepToUndo_19 : decode cX1_keepToUndo 19 = .ok (.iconst 0, 1) := by decide +kernel
theorem dX1_keepToUndo_20 : decode cX1_keepToUndo 20 = .ok (.bipush 77, 2) := by decide +kernel
theorem dX1_keepToUndo_22 : decode cX1_keepToUndo 22 = .ok (.invokestatic 58, 3) := by decide +kernel
theorem dX1_keepToUndo_25 : decode cX1_keepToUndo 25 = .ok (.aload_n 0, 1) := by decide +kernel
theorem dX1_keepToUndo_26 : decode cX1_keepToUndo 26 = .ok (.dup, 1) := by decide +kernel
theorem dX1_keepToUndo_27 : decode cX1_keepToUndo 27 = .ok (.getfield 55, 3) := by decide +kernel
theorem dX1_keepToUndo_30 : decode cX1_keepToUndo 30 = .ok (.iconst 1, 1) := by decide +kernel
theorem dX1_keepToUndo_31 : decode cX1_keepToUndo 31 = .ok (.isub, 1) := by decide +kernel
theorem dX1_keepToUndo_32 : decode cX1_keepToUndo 32 = .ok (.putfield 55, 3) := by decide +kernel
theorem dX1_keepToUndo_35 : decode cX1_keepToUndo 35 = .ok (.bipush 11, 2) := by decide +kernel
theorem dX1_keepToUndo_37 : decode cX1_keepToUndo 37 = .ok (.aload_n 0, 1) := by decide +kernel
theorem dX1_keepToUndo_38 : decode cX1_keepToUndo 38 = .ok (.getfield 55, 3) := by decide +kernel
theorem dX1_keepToUndo_41 : decode cX1_keepToUndo 41 = .ok (.imul, 1) := by decide +kernel
theorem dX1_keepToUndo_42 : decode cX1_keepToUndo 42 = .ok (.istore_n 1, 1) := by decide +kernel
theorem dX1_keepToUndo_43 : decode cX1_keepToUndo 43 = .ok (.aload_n 0, 1) := by decide +kernel
theorem dX1_keepToUndo_44 : decode cX1_keepToUndo 44 = .ok (.getfield 33, 3) := by decide +kernel
theorem dX1_keepToUndo_47 : decode cX1_keepToUndo 47 = .ok (.iload_n 1, 1) := by decide +kernel
theorem dX1_keepToUndo_48 : decode cX1_keepToUndo 48 = .ok (.aload_n 0, 1) := by decide +kernel
theorem dX1_keepToUndo_49 : decode cX1_keepToUndo 49 = .ok (.getfield 42, 3) := by decide +kernel
theorem dX1_keepToUndo_52 : decode cX1_keepToUndo 52 = .ok (.iastore, 1) := by decide +kernel
theorem dX1_keepToUndo_53 : decode cX1_keepToUndo 53 = .ok (.aload_n 0, 1) := by decide +kernel
theorem dX1_keepToUndo_54 : decode cX1_keepToUndo 54 = .ok (.getfield 21, 3) := by decide +kernel
theorem dX1_keepToUndo_57 : decode cX1_keepToUndo 57 = .ok (.iconst 0, 1) := by decide +kernel
theorem dX1_keepToUndo_58 : decode cX1_keepToUndo 58 = .ok (.aload_n 0, 1) := by decide +kernel
theorem dX1_keepToUndo_59 : decode cX1_keepToUndo 59 = .ok (.getfield 33, 3) := by decide +kernel
theorem dX1_keepToUndo_62 : decode cX1_keepToUndo 62 = .ok (.iload_n 1, 1) := by decide +kernel
theorem dX1_keepToUndo_63 : decode cX1_keepToUndo 63 = .ok (.iconst 1, 1) := by decide +kernel
theorem dX1_keepToUndo_64 : decode cX1_keepToUndo 64 = .ok (.iadd, 1) := by decide +kernel
theorem dX1_keepToUndo_65 : decode cX1_keepToUndo 65 = .ok (.iconst 5, 1) := by decide +kernel
theorem dX1_keepToUndo_66 : decode cX1_keepToUndo 66 = .ok (.invokestatic 58, 3) := by decide +kernel
theorem dX1_keepToUndo_69 : decode cX1_keepToUndo 69 = .ok (.aload_n 0, 1) := by decide +kernel
theorem dX1_keepToUndo_70 : decode cX1_keepToUndo 70 = .ok (.getfield 24, 3) := by decide +kernel
theorem dX1_keepToUndo_73 : decode cX1_keepToUndo 73 = .ok (.iconst 0, 1) := by decide +kernel
theorem dX1_keepToUndo_74 : decode cX1_keepToUndo 74 = .ok (.aload_n 0, 1) := by decide +kernel
theorem dX1_keepToUndo_75 : decode cX1_keepToUndo 75 = .ok (.getfield 33, 3) := by decide +kernel
theorem dX1_keepToUndo_78 : decode cX1_keepToUndo 78 = .ok (.iload_n 1, 1) := by decide +kernel
theorem dX1_keepToUndo_79 : decode cX1_keepToUndo 79 = .ok (.iconst 1, 1) := by decide +kernel
theorem dX1_keepToUndo_80 : decode cX1_keepToUndo 80 = .ok (.iadd, 1) := by decide +kernel
theorem dX1_keepToUndo_81 : decode cX1_keepToUndo 81 = .ok (.iconst 5, 1) := by decide +kernel
theorem dX1_keepToUndo_82 : decode cX1_keepToUndo 82 = .ok (.iadd, 1) := by decide +kernel
theorem dX1_keepToUndo_83 : decode cX1_keepToUndo 83 = .ok (.iconst 5, 1) := by decide +kernel
theorem dX1_keepToUndo_84 : decode cX1_keepToUndo 84 = .ok (.invokestatic 58, 3) := by decide +kernel
theorem dX1_keepToUndo_87 : decode cX1_keepToUndo 87 = .ok (.aload_n 0, 1) := by decide +kernel
theorem dX1_keepToUndo_88 : decode cX1_keepToUndo 88 = .ok (.dup, 1) := by decide +kernel
theorem dX1_keepToUndo_89 : decode cX1_keepToUndo 89 = .ok (.getfield 55, 3) := by decide +kernel
theorem dX1_keepToUndo_92 : decode cX1_keepToUndo 92 = .ok (.iconst 1, 1) := by decide +kernel
theorem dX1_keepToUndo_93 : decode cX1_keepToUndo 93 = .ok (.iadd, 1) := by decide +kernel
theorem dX1_keepToUndo_94 : decode cX1_keepToUndo 94 = .ok (.putfield 55, 3) := by decide +kernel
theorem dX1_keepToUndo_97 : decode cX1_keepToUndo 97 = .ok (.return_, 1) := by decide +kernel
theorem dX1_takeBack_0 : decode cX1_takeBack 0 = .ok (.aload_n 0, 1) := by decide +kernel
theorem dX1_takeBack_1 : decode cX1_takeBack 1 = .ok (.dup, 1) := by decide +kernel
theorem dX1_takeBack_2 : decode cX1_takeBack 2 = .ok (.getfield 55, 3) := by decide +kernel
theorem dX1_takeBack_5 : decode cX1_takeBack 5 = .ok (.iconst 1, 1) := by decide +kernel
theorem dX1_takeBack_6 : decode cX1_takeBack 6 = .ok (.isub, 1) := by decide +kernel
theorem dX1_takeBack_7 : decode cX1_takeBack 7 = .ok (.putfield 55, 3) := by decide +kernel
theorem dX1_takeBack_10 : decode cX1_takeBack 10 = .ok (.bipush 11, 2) := by decide +kernel
theorem dX1_takeBack_12 : decode cX1_takeBack 12 = .ok (.aload_n 0, 1) := by decide +kernel
theorem dX1_takeBack_13 : decode cX1_takeBack 13 = .ok (.getfield 55, 3) := by decide +kernel
theorem dX1_takeBack_16 : decode cX1_takeBack 16 = .ok (.imul, 1) := by decide +kernel
theorem dX1_takeBack_17 : decode cX1_takeBack 17 = .ok (.istore_n 1, 1) := by decide +kernel
theorem dX1_takeBack_18 : decode cX1_takeBack 18 = .ok (.aload_n 0, 1) := by decide +kernel
theorem dX1_takeBack_19 : decode cX1_takeBack 19 = .ok (.aload_n 0, 1) := by decide +kernel
theorem dX1_takeBack_20 : decode cX1_takeBack 20 = .ok (.getfield 33, 3) := by decide +kernel
theorem dX1_takeBack_23 : decode cX1_takeBack 23 = .ok (.iload_n 1, 1) := by decide +kernel
theorem dX1_takeBack_24 : decode cX1_takeBack 24 = .ok (.iaload, 1) := by decide +kernel
theorem dX1_takeBack_25 : decode cX1_takeBack 25 = .ok (.putfield 42, 3) := by decide +kernel
theorem dX1_takeBack_28 : decode cX1_takeBack 28 = .ok (.aload_n 0, 1) := by decide +kernel
theorem dX1_takeBack_29 : decode cX1_takeBack 29 = .ok (.getfield 33, 3) := by decide +kernel
theorem dX1_takeBack_32 : decode cX1_takeBack 32 = .ok (.iload_n 1, 1) := by decide +kernel
theorem dX1_takeBack_33 : decode cX1_takeBack 33 = .ok (.iconst 1, 1) := by decide +kernel
theorem dX1_takeBack_34 : decode cX1_takeBack 34 = .ok (.iadd, 1) := by decide +kernel
theorem dX1_takeBack_35 : decode cX1_takeBack 35 = .ok (.aload_n 0, 1) := by decide +kernel
theorem dX1_takeBack_36 : decode cX1_takeBack 36 = .ok (.getfield 21, 3) := by decide +kernel
theorem dX1_takeBack_39 : decode cX1_takeBack 39 = .ok (.iconst 0, 1) := by decide +kernel
theorem dX1_takeBack_40 : decode cX1_takeBack 40 = .ok (.iconst 5, 1) := by decide +kernel
theorem dX1_takeBack_41 : decode cX1_takeBack 41 = .ok (.invokestatic 58, 3) := by decide +kernel
theorem dX1_takeBack_44 : decode cX1_takeBack 44 = .ok (.aload_n 0, 1) := by decide +kernel
theorem dX1_takeBack_45 : decode cX1_takeBack 45 = .ok (.getfield 33, 3) := by decide +kernel
theorem dX1_takeBack_48 : decode cX1_takeBack 48 = .ok (.iload_n 1, 1) := by decide +kernel
theorem dX1_takeBack_49 : decode cX1_takeBack 49 = .ok (.iconst 1, 1) := by decide +kernel
theorem dX1_takeBack_50 : decode cX1_takeBack 50 = .ok (.iadd, 1) := by decide +kernel
theorem dX1_takeBack_51 : decode cX1_takeBack 51 = .ok (.iconst 5, 1) := by decide +kernel
theorem dX1_takeBack_52 : decode cX1_takeBack 52 = .ok (.iadd, 1) := by decide +kernel
theorem dX1_takeBack_53 : decode cX1_takeBack 53 = .ok (.aload_n 0, 1) := by decide +kernel
theorem dX1_takeBack_54 : decode cX1_takeBack 54 = .ok (.getfield 24, 3) := by decide +kernel
theorem dX1_takeBack_57 : decode cX1_takeBack 57 = .ok (.iconst 0, 1) := by decide +kernel
theorem dX1_takeBack_58 : decode cX1_takeBack 58 = .ok (.iconst 5, 1) := by decide +kernel
theorem dX1_takeBack_59 : decode cX1_takeBack 59 = .ok (.invokestatic 58, 3) := by decide +kernel
theorem dX1_takeBack_62 : decode cX1_takeBack 62 = .ok (.return_, 1) := by decide +kernel
set_option maxRecDepth 20000 in
theorem ggX1_floesOut_X3_isOut : GoodIn wsX1_floesOut wsX3_isOut := goodIn_r _ [5] (by decide +kernel) (by decide +kernel)
set_option maxRecDepth 20000 in
theorem gX1_floesOut_X3_isOut_n74 : GoodIn wsX1_floesOut (wsX3_isOut) := ggX1_floesOut_X3_isOut
theorem dX1_floesOut_0 : decode cX1_floesOut 0 = .ok (.iconst 0, 1) := by decide +kernel
theorem dX1_floesOut_1 : decode cX1_floesOut 1 = .ok (.istore_n 1, 1) := by decide +kernel
theorem dX1_floesOut_2 : decode cX1_floesOut 2 = .ok (.iconst 0, 1) := by decide +kernel
theorem dX1_floesOut_3 : decode cX1_floesOut 3 = .ok (.istore_n 2, 1) := by decide +kernel
theorem dX1_floesOut_4 : decode cX1_floesOut 4 = .ok (.iload_n 2, 1) := by decide +kernel
theorem dX1_floesOut_5 : decode cX1_floesOut 5 = .ok (.aload_n 0, 1) := by decide +kernel
theorem dX1_floesOut_6 : decode cX1_floesOut 6 = .ok (.getfield 46, 3) := by decide +kernel
theorem dX1_floesOut_9 : decode cX1_floesOut 9 = .ok (.if_icmp .ge 24, 3) := by decide +kernel
theorem dX1_floesOut_12 : decode cX1_floesOut 12 = .ok (.aload_n 0, 1) := by decide +kernel
theorem dX1_floesOut_13 : decode cX1_floesOut 13 = .ok (.getfield 21, 3) := by decide +kernel
theorem dX1_floesOut_16 : decode cX1_floesOut 16 = .ok (.iload_n 2, 1) := by decide +kernel
theorem dX1_floesOut_17 : decode cX1_floesOut 17 = .ok (.iaload, 1) := by decide +kernel
theorem dX1_floesOut_18 : decode cX1_floesOut 18 = .ok (.invokestatic 74, 3) := by decide +kernel
theorem dX1_floesOut_21 : decode cX1_floesOut 21 = .ok (.ifCond .eq 6, 3) := by decide +kernel
theorem dX1_floesOut_24 : decode cX1_floesOut 24 = .ok (.iinc 1 1, 3) := by decide +kernel
theorem dX1_floesOut_27 : decode cX1_floesOut 27 = .ok (.iinc 2 1, 3) := by decide +kernel
theorem dX1_floesOut_30 : decode cX1_floesOut 30 = .ok (.goto (-26), 3) := by decide +kernel
theorem dX1_floesOut_33 : decode cX1_floesOut 33 = .ok (.iload_n 1, 1) := by decide +kernel
theorem dX1_floesOut_34 : decode cX1_floesOut 34 = .ok (.ireturn, 1) := by decide +kernel
set_option maxRecDepth 20000 in
theorem ggX1_nextCell_X0_cellBy : GoodIn wsX1_nextCell wsX0_cellBy := goodIn_r _ [6, 7, 8, 9, 10, 11, 12, 13, 14, 15, 5, 16, 17, 18, 19] (by decide +kernel) (by decide +kernel)
set_option maxRecDepth 20000 in
theorem gX1_nextCell_X0_cellBy : GoodIn wsX1_nextCell (va_wsS RX1 78 yX0_cellBy wsX0_cellBy) := goodIn_app (goodIn_of _ (by decide +kernel)) ggX1_nextCell_X0_cellBy
theorem dX1_nextCell_0 : decode cX1_nextCell 0 = .ok (.iload_n 3, 1) := by decide +kernel
theorem dX1_nextCell_1 : decode cX1_nextCell 1 = .ok (.bipush 12, 2) := by decide +kernel
theorem dX1_nextCell_3 : decode cX1_nextCell 3 = .ok (.irem, 1) := by decide +kernel
theorem dX1_nextCell_4 : decode cX1_nextCell 4 = .ok (.istore 4, 2) := by decide +kernel
theorem dX1_nextCell_6 : decode cX1_nextCell 6 = .ok (.iload_n 1, 1) := by decide +kernel
theorem dX1_nextCell_7 : decode cX1_nextCell 7 = .ok (.iload_n 2, 1) := by decide +kernel
theorem dX1_nextCell_8 : decode cX1_nextCell 8 = .ok (.iload_n 3, 1) := by decide +kernel
theorem dX1_nextCell_9 : decode cX1_nextCell 9 = .ok (.aload_n 0, 1) := by decide +kernel
theorem dX1_nextCell_10 : decode cX1_nextCell 10 = .ok (.getfield 9, 3) := by decide +kernel
theorem dX1_nextCell_13 : decode cX1_nextCell 13 = .ok (.iload 4, 2) := by decide +kernel
theorem dX1_nextCell_15 : decode cX1_nextCell 15 = .ok (.iaload, 1) := by decide +kernel
theorem dX1_nextCell_16 : decode cX1_nextCell 16 = .ok (.aload_n 0, 1) := by decide +kernel
theorem dX1_nextCell_17 : decode cX1_nextCell 17 = .ok (.getfield 15, 3) := by decide +kernel
theorem dX1_nextCell_20 : decode cX1_nextCell 20 = .ok (.iload 4, 2) := by decide +kernel
theorem dX1_nextCell_22 : decode cX1_nextCell 22 = .ok (.iaload, 1) := by decide +kernel
theorem dX1_nextCell_23 : decode cX1_nextCell 23 = .ok (.invokestatic 78, 3) := by decide +kernel
theorem dX1_nextCell_26 : decode cX1_nextCell 26 = .ok (.ireturn, 1) := by decide +kernel
set_option maxRecDepth 20000 in
theorem ggX1_cellBehind_X1_drifted : GoodIn wsX1_cellBehind wsX1_drifted := goodIn_r _ [8, 9, 10, 11, 7, 12, 13, 14, 15, 16, 17, 18, 19, 20, 21, 22, 23, 24, 25, 26, 27, 28, 29, 30, 31, 32, 33, 34, 35, 36, 37, 38, 39, 40, 41, 42, 43, 44] (by decide +kernel) (by decide +kernel)
set_option maxRecDepth 20000 in
theorem gX1_cellBehind_X1_drifted : GoodIn wsX1_cellBehind (wsV RX1 84 RX1 yX1_drifted wsX1_drifted) := goodIn_app (goodIn_of _ (by decide +kernel)) ggX1_cellBehind_X1_drifted
theorem dX1_cellBehind_0 : decode cX1_cellBehind 0 = .ok (.aload_n 0, 1) := by decide +kernel
theorem dX1_cellBehind_1 : decode cX1_cellBehind 1 = .ok (.aload_n 0, 1) := by decide +kernel
theorem dX1_cellBehind_2 : decode cX1_cellBehind 2 = .ok (.getfield 18, 3) := by decide +kernel
theorem dX1_cellBehind_5 : decode cX1_cellBehind 5 = .ok (.iload_n 1, 1) := by decide +kernel
theorem dX1_cellBehind_6 : decode cX1_cellBehind 6 = .ok (.iaload, 1) := by decide +kernel
theorem dX1_cellBehind_7 : decode cX1_cellBehind 7 = .ok (.aload_n 0, 1) := by decide +kernel
theorem dX1_cellBehind_8 : decode cX1_cellBehind 8 = .ok (.getfield 21, 3) := by decide +kernel
theorem dX1_cellBehind_11 : decode cX1_cellBehind 11 = .ok (.iload_n 1, 1) := by decide +kernel
theorem dX1_cellBehind_12 : decode cX1_cellBehind 12 = .ok (.iaload, 1) := by decide +kernel
theorem dX1_cellBehind_13 : decode cX1_cellBehind 13 = .ok (.aload_n 0, 1) := by decide +kernel
theorem dX1_cellBehind_14 : decode cX1_cellBehind 14 = .ok (.getfield 42, 3) := by decide +kernel
theorem dX1_cellBehind_17 : decode cX1_cellBehind 17 = .ok (.iload_n 2, 1) := by decide +kernel
theorem dX1_cellBehind_18 : decode cX1_cellBehind 18 = .ok (.invokevirtual 84, 3) := by decide +kernel
theorem dX1_cellBehind_21 : decode cX1_cellBehind 21 = .ok (.ireturn, 1) := by decide +kernel
set_option maxRecDepth 20000 in
theorem ggX1_drifted_X1_nextCell : GoodIn wsX1_drifted wsX1_nextCell := goodIn_r _ [5, 6, 7, 8, 9, 10, 11, 12, 13, 14, 15, 16, 17, 18, 19, 20, 21, 22, 23, 24, 25, 26, 27, 28, 29, 30, 31, 32, 33, 34, 35, 36, 37] (by decide +kernel) (by decide +kernel)
set_option maxRecDepth 20000 in
theorem gX1_drifted_X1_nextCell : GoodIn wsX1_drifted (wsV RX1 64 RX1 yX1_nextCell wsX1_nextCell) := goodIn_app (goodIn_of _ (by decide +kernel)) ggX1_drifted_X1_nextCell
theorem dX1_drifted_0 : decode cX1_drifted 0 = .ok (.iload_n 2, 1) := by decide +kernel
theorem dX1_drifted_1 : decode cX1_drifted 1 = .ok (.istore 5, 2) := by decide +kernel
theorem dX1_drifted_3 : decode cX1_drifted 3 = .ok (.iconst 0, 1) := by decide +kernel
theorem dX1_drifted_4 : decode cX1_drifted 4 = .ok (.istore 6, 2) := by decide +kernel
theorem dX1_drifted_6 : decode cX1_drifted 6 = .ok (.iload 6, 2) := by decide +kernel
theorem dX1_drifted_8 : decode cX1_drifted 8 = .ok (.iload 4, 2) := by decide +kernel
theorem dX1_drifted_10 : decode cX1_drifted 10 = .ok (.if_icmp .ge 22, 3) := by decide +kernel
theorem dX1_drifted_13 : decode cX1_drifted 13 = .ok (.aload_n 0, 1) := by decide +kernel
theorem dX1_drifted_14 : decode cX1_drifted 14 = .ok (.iload_n 1, 1) := by decide +kernel
theorem dX1_drifted_15 : decode cX1_drifted 15 = .ok (.iload 5, 2) := by decide +kernel
theorem dX1_drifted_17 : decode cX1_drifted 17 = .ok (.iload_n 3, 1) := by decide +kernel
theorem dX1_drifted_18 : decode cX1_drifted 18 = .ok (.iload 6, 2) := by decide +kernel
theorem dX1_drifted_20 : decode cX1_drifted 20 = .ok (.iadd, 1) := by decide +kernel
theorem dX1_drifted_21 : decode cX1_drifted 21 = .ok (.invokevirtual 64, 3) := by decide +kernel
theorem dX1_drifted_24 : decode cX1_drifted 24 = .ok (.istore 5, 2) := by decide +kernel
theorem dX1_drifted_26 : decode cX1_drifted 26 = .ok (.iinc 6 1, 3) := by decide +kernel
theorem dX1_drifted_29 : decode cX1_drifted 29 = .ok (.goto (-23), 3) := by decide +kernel
theorem dX1_drifted_32 : decode cX1_drifted 32 = .ok (.iload 5, 2) := by decide +kernel
theorem dX1_drifted_34 : decode cX1_drifted 34 = .ok (.ireturn, 1) := by decide +kernel
theorem dX1_foodBehind_0 : decode cX1_foodBehind 0 = .ok (.iconst 0, 1) := by decide +kernel
theorem dX1_foodBehind_1 : decode cX1_foodBehind 1 = .ok (.aload_n 0, 1) := by decide +kernel
theorem dX1_foodBehind_2 : decode cX1_foodBehind 2 = .ok (.getfield 24, 3) := by decide +kernel
theorem dX1_foodBehind_5 : decode cX1_foodBehind 5 = .ok (.iload_n 1, 1) := by decide +kernel
theorem dX1_foodBehind_6 : decode cX1_foodBehind 6 = .ok (.iaload, 1) := by decide +kernel
theorem dX1_foodBehind_7 : decode cX1_foodBehind 7 = .ok (.iload_n 2, 1) := by decide +kernel
theorem dX1_foodBehind_8 : decode cX1_foodBehind 8 = .ok (.isub, 1) := by decide +kernel
theorem dX1_foodBehind_9 : decode cX1_foodBehind 9 = .ok (.invokestatic 68, 3) := by decide +kernel
theorem dX1_foodBehind_12 : decode cX1_foodBehind 12 = .ok (.ireturn, 1) := by decide +kernel
set_option maxRecDepth 20000 in
theorem ggX1_firstOut_X3_isOut : GoodIn wsX1_firstOut wsX3_isOut := goodIn_r _ [4] (by decide +kernel) (by decide +kernel)
set_option maxRecDepth 20000 in
theorem gX1_firstOut_X3_isOut_n74 : GoodIn wsX1_firstOut (wsX3_isOut) := ggX1_firstOut_X3_isOut
set_option maxRecDepth 20000 in
theorem ggX1_firstOut_X1_nextCell : GoodIn wsX1_firstOut wsX1_nextCell := goodIn_r _ [9, 10, 11, 12, 13, 14, 15, 16, 17, 18, 19, 20, 21, 22, 23, 24, 25, 26, 27, 28, 29, 30, 31, 32, 33, 34, 35, 36, 37, 38, 39, 40, 41] (by decide +kernel) (by decide +kernel)
set_option maxRecDepth 20000 in
theorem gX1_firstOut_X1_nextCell : GoodIn wsX1_firstOut (wsV RX1 64 RX1 yX1_nextCell wsX1_nextCell) := goodIn_app (goodIn_of _ (by decide +kernel)) ggX1_firstOut_X1_nextCell
theorem dX1_firstOut_0 : decode cX1_firstOut 0 = .ok (.iload_n 2, 1) := by decide +kernel
theorem dX1_firstOut_1 : decode cX1_firstOut 1 = .ok (.istore_n 3, 1) := by decide +kernel
theorem dX1_firstOut_2 : decode cX1_firstOut 2 = .ok (.iconst 0, 1) := by decide +kernel
theorem dX1_firstOut_3 : decode cX1_firstOut 3 = .ok (.istore 4, 2) := by decide +kernel
theorem dX1_firstOut_5 : decode cX1_firstOut 5 = .ok (.iload 4, 2) := by decide +kernel
theorem dX1_firstOut_7 : decode cX1_firstOut 7 = .ok (.bipush 60, 2) := by decide +kernel
theorem dX1_firstOut_9 : decode cX1_firstOut 9 = .ok (.if_icmp .gt 33, 3) := by decide +kernel
theorem dX1_firstOut_12 : decode cX1_firstOut 12 = .ok (.iload_n 3, 1) := by decide +kernel
theorem dX1_firstOut_13 : decode cX1_firstOut 13 = .ok (.invokestatic 74, 3) := by decide +kernel
theorem dX1_firstOut_16 : decode cX1_firstOut 16 = .ok (.ifCond .eq 6, 3) := by decide +kernel
theorem dX1_firstOut_19 : decode cX1_firstOut 19 = .ok (.iload 4, 2) := by decide +kernel
theorem dX1_firstOut_21 : decode cX1_firstOut 21 = .ok (.ireturn, 1) := by decide +kernel
theorem dX1_firstOut_22 : decode cX1_firstOut 22 = .ok (.aload_n 0, 1) := by decide +kernel
theorem dX1_firstOut_23 : decode cX1_firstOut 23 = .ok (.iload_n 1, 1) := by decide +kernel
theorem dX1_firstOut_24 : decode cX1_firstOut 24 = .ok (.iload_n 3, 1) := by decide +kernel
theorem dX1_firstOut_25 : decode cX1_firstOut 25 = .ok (.aload_n 0, 1) := by decide +kernel
theorem dX1_firstOut_26 : decode cX1_firstOut 26 = .ok (.getfield 42, 3) := by decide +kernel
theorem dX1_firstOut_29 : decode cX1_firstOut 29 = .ok (.iload 4, 2) := by decide +kernel
theorem dX1_firstOut_31 : decode cX1_firstOut 31 = .ok (.iadd, 1) := by decide +kernel
theorem dX1_firstOut_32 : decode cX1_firstOut 32 = .ok (.invokevirtual 64, 3) := by decide +kernel
theorem dX1_firstOut_35 : decode cX1_firstOut 35 = .ok (.istore_n 3, 1) := by decide +kernel
theorem dX1_firstOut_36 : decode cX1_firstOut 36 = .ok (.iinc 4 1, 3) := by decide +kernel
theorem dX1_firstOut_39 : decode cX1_firstOut 39 = .ok (.goto (-34), 3) := by decide +kernel
theorem dX1_firstOut_42 : decode cX1_firstOut 42 = .ok (.iconst (-1), 1) := by decide +kernel
theorem dX1_firstOut_43 : decode cX1_firstOut 43 = .ok (.ireturn, 1) := by decide +kernel
set_option maxRecDepth 20000 in
theorem ggX1_cellBySeed_X0_cellBy : GoodIn wsX1_cellBySeed wsX0_cellBy := goodIn_r _ [13, 14, 15, 16, 17, 18, 19, 20, 21, 22, 12, 23, 24, 25, 26] (by decide +kernel) (by decide +kernel)
set_option maxRecDepth 20000 in
theorem gX1_cellBySeed_X0_cellBy : GoodIn wsX1_cellBySeed (va_wsS RX1 78 yX0_cellBy wsX0_cellBy) := goodIn_app (goodIn_of _ (by decide +kernel)) ggX1_cellBySeed_X0_cellBy
theorem dX1_cellBySeed_0 : decode cX1_cellBySeed 0 = .ok (.aload_n 0, 1) := by decide +kernel
theorem dX1_cellBySeed_1 : decode cX1_cellBySeed 1 = .ok (.getfield 21, 3) := by decide +kernel
theorem dX1_cellBySeed_4 : decode cX1_cellBySeed 4 = .ok (.iload_n 1, 1) := by decide +kernel
theorem dX1_cellBySeed_5 : decode cX1_cellBySeed 5 = .ok (.iaload, 1) := by decide +kernel
theorem dX1_cellBySeed_6 : decode cX1_cellBySeed 6 = .ok (.istore 4, 2) := by decide +kernel
theorem dX1_cellBySeed_8 : decode cX1_cellBySeed 8 = .ok (.iload_n 2, 1) := by decide +kernel
theorem dX1_cellBySeed_9 : decode cX1_cellBySeed 9 = .ok (.i2l, 1) := by decide +kernel
theorem dX1_cellBySeed_10 : decode cX1_cellBySeed 10 = .ok (.lstore 5, 2) := by decide +kernel
theorem dX1_cellBySeed_12 : decode cX1_cellBySeed 12 = .ok (.iconst 0, 1) := by decide +kernel
theorem dX1_cellBySeed_13 : decode cX1_cellBySeed 13 = .ok (.istore 7, 2) := by decide +kernel
theorem dX1_cellBySeed_15 : decode cX1_cellBySeed 15 = .ok (.iload 7, 2) := by decide +kernel
theorem dX1_cellBySeed_17 : decode cX1_cellBySeed 17 = .ok (.iload_n 3, 1) := by decide +kernel
theorem dX1_cellBySeed_18 : decode cX1_cellBySeed 18 = .ok (.if_icmp .ge 75, 3) := by decide +kernel
theorem dX1_cellBySeed_21 : decode cX1_cellBySeed 21 = .ok (.lload 5, 2) := by decide +kernel
theorem dX1_cellBySeed_23 : decode cX1_cellBySeed 23 = .ok (.ldc2_w 88, 3) := by decide +kernel
theorem dX1_cellBySeed_26 : decode cX1_cellBySeed 26 = .ok (.lmul, 1) := by decide +kernel
theorem dX1_cellBySeed_27 : decode cX1_cellBySeed 27 = .ok (.ldc2_w 90, 3) := by decide +kernel
theorem dX1_cellBySeed_30 : decode cX1_cellBySeed 30 = .ok (.ladd, 1) := by decide +kernel
theorem dX1_cellBySeed_31 : decode cX1_cellBySeed 31 = .ok (.ldc2_w 92, 3) := by decide +kernel
theorem dX1_cellBySeed_34 : decode cX1_cellBySeed 34 = .ok (.lrem, 1) := by decide +kernel
theorem dX1_cellBySeed_35 : decode cX1_cellBySeed 35 = .ok (.lstore 5, 2) := by decide +kernel
theorem dX1_cellBySeed_37 : decode cX1_cellBySeed 37 = .ok (.lload 5, 2) := by decide +kernel
theorem dX1_cellBySeed_39 : decode cX1_cellBySeed 39 = .ok (.ldc2_w 94, 3) := by decide +kernel
theorem dX1_cellBySeed_42 : decode cX1_cellBySeed 42 = .ok (.ldiv, 1) := by decide +kernel
theorem dX1_cellBySeed_43 : decode cX1_cellBySeed 43 = .ok (.ldc2_w 96, 3) := by decide +kernel
theorem dX1_cellBySeed_46 : decode cX1_cellBySeed 46 = .ok (.lrem, 1) := by decide +kernel
theorem dX1_cellBySeed_47 : decode cX1_cellBySeed 47 = .ok (.l2i, 1) := by decide +kernel
theorem dX1_cellBySeed_48 : decode cX1_cellBySeed 48 = .ok (.istore 8, 2) := by decide +kernel
theorem dX1_cellBySeed_50 : decode cX1_cellBySeed 50 = .ok (.lload 5, 2) := by decide +kernel
theorem dX1_cellBySeed_52 : decode cX1_cellBySeed 52 = .ok (.ldc2_w 98, 3) := by decide +kernel
theorem dX1_cellBySeed_55 : decode cX1_cellBySeed 55 = .ok (.ldiv, 1) := by decide +kernel
theorem dX1_cellBySeed_56 : decode cX1_cellBySeed 56 = .ok (.ldc2_w 96, 3) := by decide +kernel
theorem dX1_cellBySeed_59 : decode cX1_cellBySeed 59 = .ok (.lrem, 1) := by decide +kernel
theorem dX1_cellBySeed_60 : decode cX1_cellBySeed 60 = .ok (.l2i, 1) := by decide +kernel
theorem dX1_cellBySeed_61 : decode cX1_cellBySeed 61 = .ok (.istore 9, 2) := by decide +kernel
theorem dX1_cellBySeed_63 : decode cX1_cellBySeed 63 = .ok (.aload_n 0, 1) := by decide +kernel
theorem dX1_cellBySeed_64 : decode cX1_cellBySeed 64 = .ok (.getfield 18, 3) := by decide +kernel
theorem dX1_cellBySeed_67 : decode cX1_cellBySeed 67 = .ok (.iload_n 1, 1) := by decide +kernel
theorem dX1_cellBySeed_68 : decode cX1_cellBySeed 68 = .ok (.iaload, 1) := by decide +kernel
theorem dX1_cellBySeed_69 : decode cX1_cellBySeed 69 = .ok (.iload 4, 2) := by decide +kernel
theorem dX1_cellBySeed_71 : decode cX1_cellBySeed 71 = .ok (.aload_n 0, 1) := by decide +kernel
theorem dX1_cellBySeed_72 : decode cX1_cellBySeed 72 = .ok (.getfield 42, 3) := by decide +kernel
theorem dX1_cellBySeed_75 : decode cX1_cellBySeed 75 = .ok (.iload 7, 2) := by decide +kernel
theorem dX1_cellBySeed_77 : decode cX1_cellBySeed 77 = .ok (.iadd, 1) := by decide +kernel
theorem dX1_cellBySeed_78 : decode cX1_cellBySeed 78 = .ok (.iload 8, 2) := by decide +kernel
theorem dX1_cellBySeed_80 : decode cX1_cellBySeed 80 = .ok (.iload 9, 2) := by decide +kernel
theorem dX1_cellBySeed_82 : decode cX1_cellBySeed 82 = .ok (.invokestatic 78, 3) := by decide +kernel
theorem dX1_cellBySeed_85 : decode cX1_cellBySeed 85 = .ok (.istore 4, 2) := by decide +kernel
theorem dX1_cellBySeed_87 : decode cX1_cellBySeed 87 = .ok (.iinc 7 1, 3) := by decide +kernel
theorem dX1_cellBySeed_90 : decode cX1_cellBySeed 90 = .ok (.goto (-75), 3) := by decide +kernel
theorem dX1_cellBySeed_93 : decode cX1_cellBySeed 93 = .ok (.iload 4, 2) := by decide +kernel
theorem dX1_cellBySeed_95 : decode cX1_cellBySeed 95 = .ok (.ireturn, 1) := by decide +kernel
set_option maxRecDepth 20000 in
theorem ggX1_allFoundFrom_X1_drifted : GoodIn wsX1_allFoundFrom wsX1_drifted := goodIn_r _ [7, 8, 9, 10, 6, 11, 12, 13, 14, 15, 16, 17, 18, 19, 20, 21, 22, 23, 24, 25, 26, 27, 28, 29, 30, 31, 32, 33, 34, 35, 36, 37, 38, 39, 40, 41, 42, 43] (by decide +kernel) (by decide +kernel)
set_option maxRecDepth 20000 in
theorem gX1_allFoundFrom_X1_drifted : GoodIn wsX1_allFoundFrom (wsV RX1 84 RX1 yX1_drifted wsX1_drifted) := goodIn_app (goodIn_of _ (by decide +kernel)) ggX1_allFoundFrom_X1_drifted
theorem dX1_allFoundFrom_0 : decode cX1_allFoundFrom 0 = .ok (.iconst 0, 1) := by decide +kernel
theorem dX1_allFoundFrom_1 : decode cX1_allFoundFrom 1 = .ok (.istore_n 2, 1) := by decide +kernel
theorem dX1_allFoundFrom_2 : decode cX1_allFoundFrom 2 = .ok (.iload_n 2, 1) := by decide +kernel
theorem dX1_allFoundFrom_3 : decode cX1_allFoundFrom 3 = .ok (.aload_n 0, 1) := by decide +kernel
theorem dX1_allFoundFrom_4 : decode cX1_allFoundFrom 4 = .ok (.getfield 49, 3) := by decide +kernel
theorem dX1_allFoundFrom_7 : decode cX1_allFoundFrom 7 = .ok (.if_icmp .ge 46, 3) := by decide +kernel
theorem dX1_allFoundFrom_10 : decode cX1_allFoundFrom 10 = .ok (.iconst 3, 1) := by decide +kernel
theorem dX1_allFoundFrom_11 : decode cX1_allFoundFrom 11 = .ok (.iload_n 2, 1) := by decide +kernel
theorem dX1_allFoundFrom_12 : decode cX1_allFoundFrom 12 = .ok (.imul, 1) := by decide +kernel
theorem dX1_allFoundFrom_13 : decode cX1_allFoundFrom 13 = .ok (.istore_n 3, 1) := by decide +kernel
theorem dX1_allFoundFrom_14 : decode cX1_allFoundFrom 14 = .ok (.aload_n 0, 1) := by decide +kernel
theorem dX1_allFoundFrom_15 : decode cX1_allFoundFrom 15 = .ok (.aload_n 0, 1) := by decide +kernel
theorem dX1_allFoundFrom_16 : decode cX1_allFoundFrom 16 = .ok (.getfield 27, 3) := by decide +kernel
theorem dX1_allFoundFrom_19 : decode cX1_allFoundFrom 19 = .ok (.iload_n 3, 1) := by decide +kernel
theorem dX1_allFoundFrom_20 : decode cX1_allFoundFrom 20 = .ok (.iaload, 1) := by decide +kernel
theorem dX1_allFoundFrom_21 : decode cX1_allFoundFrom 21 = .ok (.iload_n 1, 1) := by decide +kernel
theorem dX1_allFoundFrom_22 : decode cX1_allFoundFrom 22 = .ok (.iconst 0, 1) := by decide +kernel
theorem dX1_allFoundFrom_23 : decode cX1_allFoundFrom 23 = .ok (.aload_n 0, 1) := by decide +kernel
theorem dX1_allFoundFrom_24 : decode cX1_allFoundFrom 24 = .ok (.getfield 27, 3) := by decide +kernel
theorem dX1_allFoundFrom_27 : decode cX1_allFoundFrom 27 = .ok (.iload_n 3, 1) := by decide +kernel
theorem dX1_allFoundFrom_28 : decode cX1_allFoundFrom 28 = .ok (.iconst 1, 1) := by decide +kernel
theorem dX1_allFoundFrom_29 : decode cX1_allFoundFrom 29 = .ok (.iadd, 1) := by decide +kernel
theorem dX1_allFoundFrom_30 : decode cX1_allFoundFrom 30 = .ok (.iaload, 1) := by decide +kernel
theorem dX1_allFoundFrom_31 : decode cX1_allFoundFrom 31 = .ok (.invokevirtual 84, 3) := by decide +kernel
theorem dX1_allFoundFrom_34 : decode cX1_allFoundFrom 34 = .ok (.aload_n 0, 1) := by decide +kernel
theorem dX1_allFoundFrom_35 : decode cX1_allFoundFrom 35 = .ok (.getfield 27, 3) := by decide +kernel
theorem dX1_allFoundFrom_38 : decode cX1_allFoundFrom 38 = .ok (.iload_n 3, 1) := by decide +kernel
theorem dX1_allFoundFrom_39 : decode cX1_allFoundFrom 39 = .ok (.iconst 2, 1) := by decide +kernel
theorem dX1_allFoundFrom_40 : decode cX1_allFoundFrom 40 = .ok (.iadd, 1) := by decide +kernel
theorem dX1_allFoundFrom_41 : decode cX1_allFoundFrom 41 = .ok (.iaload, 1) := by decide +kernel
theorem dX1_allFoundFrom_42 : decode cX1_allFoundFrom 42 = .ok (.if_icmp .eq 5, 3) := by decide +kernel
theorem dX1_allFoundFrom_45 : decode cX1_allFoundFrom 45 = .ok (.iconst 0, 1) := by decide +kernel
theorem dX1_allFoundFrom_46 : decode cX1_allFoundFrom 46 = .ok (.ireturn, 1) := by decide +kernel
theorem dX1_allFoundFrom_47 : decode cX1_allFoundFrom 47 = .ok (.iinc 2 1, 3) := by decide +kernel
theorem dX1_allFoundFrom_50 : decode cX1_allFoundFrom 50 = .ok (.goto (-48), 3) := by decide +kernel
theorem dX1_allFoundFrom_53 : decode cX1_allFoundFrom 53 = .ok (.iconst 1, 1) := by decide +kernel
theorem dX1_allFoundFrom_54 : decode cX1_allFoundFrom 54 = .ok (.ireturn, 1) := by decide +kernel
set_option maxRecDepth 20000 in
theorem ggX1_kindsByNotes_X1_allNotesBy : GoodIn wsX1_kindsByNotes wsX1_allNotesBy := goodIn_r _ [5, 6, 7, 8, 9, 10, 4, 11, 12, 13, 14, 15, 16, 17, 18, 19, 20, 21, 22, 23, 24, 25, 26, 27, 28, 29, 30, 31] (by decide +kernel) (by decide +kernel)
set_option maxRecDepth 20000 in
theorem gX1_kindsByNotes_X1_allNotesBy : GoodIn wsX1_kindsByNotes (wsV RX1 100 RX1 yX1_allNotesBy wsX1_allNotesBy) := goodIn_app (goodIn_of _ (by decide +kernel)) ggX1_kindsByNotes_X1_allNotesBy
theorem dX1_kindsByNotes_0 : decode cX1_kindsByNotes 0 = .ok (.iconst 0, 1) := by decide +kernel
theorem dX1_kindsByNotes_1 : decode cX1_kindsByNotes 1 = .ok (.istore_n 2, 1) := by decide +kernel
theorem dX1_kindsByNotes_2 : decode cX1_kindsByNotes 2 = .ok (.iconst 0, 1) := by decide +kernel
theorem dX1_kindsByNotes_3 : decode cX1_kindsByNotes 3 = .ok (.istore_n 3, 1) := by decide +kernel
theorem dX1_kindsByNotes_4 : decode cX1_kindsByNotes 4 = .ok (.iload_n 3, 1) := by decide +kernel
theorem dX1_kindsByNotes_5 : decode cX1_kindsByNotes 5 = .ok (.bipush 6, 2) := by decide +kernel
theorem dX1_kindsByNotes_7 : decode cX1_kindsByNotes 7 = .ok (.if_icmp .ge 24, 3) := by decide +kernel
theorem dX1_kindsByNotes_10 : decode cX1_kindsByNotes 10 = .ok (.aload_n 0, 1) := by decide +kernel
theorem dX1_kindsByNotes_11 : decode cX1_kindsByNotes 11 = .ok (.iload_n 3, 1) := by decide +kernel
theorem dX1_kindsByNotes_12 : decode cX1_kindsByNotes 12 = .ok (.iload_n 1, 1) := by decide +kernel
theorem dX1_kindsByNotes_13 : decode cX1_kindsByNotes 13 = .ok (.invokevirtual 100, 3) := by decide +kernel
theorem dX1_kindsByNotes_16 : decode cX1_kindsByNotes 16 = .ok (.ifCond .eq 9, 3) := by decide +kernel
theorem dX1_kindsByNotes_19 : decode cX1_kindsByNotes 19 = .ok (.iload_n 2, 1) := by decide +kernel
theorem dX1_kindsByNotes_20 : decode cX1_kindsByNotes 20 = .ok (.iconst 1, 1) := by decide +kernel
theorem dX1_kindsByNotes_21 : decode cX1_kindsByNotes 21 = .ok (.iload_n 3, 1) := by decide +kernel
theorem dX1_kindsByNotes_22 : decode cX1_kindsByNotes 22 = .ok (.ishl, 1) := by decide +kernel
theorem dX1_kindsByNotes_23 : decode cX1_kindsByNotes 23 = .ok (.ior, 1) := by decide +kernel
theorem dX1_kindsByNotes_24 : decode cX1_kindsByNotes 24 = .ok (.istore_n 2, 1) := by decide +kernel
theorem dX1_kindsByNotes_25 : decode cX1_kindsByNotes 25 = .ok (.iinc 3 1, 3) := by decide +kernel
theorem dX1_kindsByNotes_28 : decode cX1_kindsByNotes 28 = .ok (.goto (-24), 3) := by decide +kernel
theorem dX1_kindsByNotes_31 : decode cX1_kindsByNotes 31 = .ok (.iload_n 2, 1) := by decide +kernel
theorem dX1_kindsByNotes_32 : decode cX1_kindsByNotes 32 = .ok (.ireturn, 1) := by decide +kernel
set_option maxRecDepth 20000 in
theorem ggX1_allNotesBy_X1_noteBy : GoodIn wsX1_allNotesBy wsX1_noteBy := goodIn_r _ [7, 2, 8, 9, 10, 11, 12, 13, 14, 15, 16, 17, 18, 19, 20, 21, 22, 23, 24, 25, 26, 27] (by decide +kernel) (by decide +kernel)
set_option maxRecDepth 20000 in
theorem gX1_allNotesBy_X1_noteBy : GoodIn wsX1_allNotesBy (wsV RX1 104 RX1 yX1_noteBy wsX1_noteBy) := goodIn_app (goodIn_of _ (by decide +kernel)) ggX1_allNotesBy_X1_noteBy
theorem dX1_allNotesBy_0 : decode cX1_allNotesBy 0 = .ok (.iconst 0, 1) := by decide +kernel
theorem dX1_allNotesBy_1 : decode cX1_allNotesBy 1 = .ok (.istore_n 3, 1) := by decide +kernel
theorem dX1_allNotesBy_2 : decode cX1_allNotesBy 2 = .ok (.iload_n 3, 1) := by decide +kernel
theorem dX1_allNotesBy_3 : decode cX1_allNotesBy 3 = .ok (.aload_n 0, 1) := by decide +kernel
theorem dX1_allNotesBy_4 : decode cX1_allNotesBy 4 = .ok (.getfield 52, 3) := by decide +kernel
theorem dX1_allNotesBy_7 : decode cX1_allNotesBy 7 = .ok (.if_icmp .ge 36, 3) := by decide +kernel
theorem dX1_allNotesBy_10 : decode cX1_allNotesBy 10 = .ok (.aload_n 0, 1) := by decide +kernel
theorem dX1_allNotesBy_11 : decode cX1_allNotesBy 11 = .ok (.getfield 30, 3) := by decide +kernel
theorem dX1_allNotesBy_14 : decode cX1_allNotesBy 14 = .ok (.bipush 7, 2) := by decide +kernel
theorem dX1_allNotesBy_16 : decode cX1_allNotesBy 16 = .ok (.iload_n 3, 1) := by decide +kernel
theorem dX1_allNotesBy_17 : decode cX1_allNotesBy 17 = .ok (.imul, 1) := by decide +kernel
theorem dX1_allNotesBy_18 : decode cX1_allNotesBy 18 = .ok (.iaload, 1) := by decide +kernel
theorem dX1_allNotesBy_19 : decode cX1_allNotesBy 19 = .ok (.iload_n 2, 1) := by decide +kernel
theorem dX1_allNotesBy_20 : decode cX1_allNotesBy 20 = .ok (.if_icmp .ne 17, 3) := by decide +kernel
theorem dX1_allNotesBy_23 : decode cX1_allNotesBy 23 = .ok (.aload_n 0, 1) := by decide +kernel
theorem dX1_allNotesBy_24 : decode cX1_allNotesBy 24 = .ok (.iload_n 1, 1) := by decide +kernel
theorem dX1_allNotesBy_25 : decode cX1_allNotesBy 25 = .ok (.bipush 7, 2) := by decide +kernel
theorem dX1_allNotesBy_27 : decode cX1_allNotesBy 27 = .ok (.iload_n 3, 1) := by decide +kernel
theorem dX1_allNotesBy_28 : decode cX1_allNotesBy 28 = .ok (.imul, 1) := by decide +kernel
theorem dX1_allNotesBy_29 : decode cX1_allNotesBy 29 = .ok (.invokevirtual 104, 3) := by decide +kernel
theorem dX1_allNotesBy_32 : decode cX1_allNotesBy 32 = .ok (.ifCond .ne 5, 3) := by decide +kernel
theorem dX1_allNotesBy_35 : decode cX1_allNotesBy 35 = .ok (.iconst 0, 1) := by decide +kernel
theorem dX1_allNotesBy_36 : decode cX1_allNotesBy 36 = .ok (.ireturn, 1) := by decide +kernel
theorem dX1_allNotesBy_37 : decode cX1_allNotesBy 37 = .ok (.iinc 3 1, 3) := by decide +kernel
theorem dX1_allNotesBy_40 : decode cX1_allNotesBy 40 = .ok (.goto (-38), 3) := by decide +kernel
theorem dX1_allNotesBy_43 : decode cX1_allNotesBy 43 = .ok (.iconst 1, 1) := by decide +kernel
theorem dX1_allNotesBy_44 : decode cX1_allNotesBy 44 = .ok (.ireturn, 1) := by decide +kernel
set_option maxRecDepth 20000 in
theorem ggX1_noteBy_X0_cellsOf : GoodIn wsX1_noteBy wsX0_cellsOf := goodIn_r _ [5] (by decide +kernel) (by decide +kernel)
set_option maxRecDepth 20000 in
theorem gX1_noteBy_X0_cellsOf : GoodIn wsX1_noteBy (va_wsS RX1 107 yX0_cellsOf wsX0_cellsOf) := goodIn_app (goodIn_of _ (by decide +kernel)) ggX1_noteBy_X0_cellsOf
set_option maxRecDepth 20000 in
theorem ggX1_noteBy_X0_wayOf : GoodIn wsX1_noteBy wsX0_wayOf := goodIn_r _ [8] (by decide +kernel) (by decide +kernel)
set_option maxRecDepth 20000 in
theorem gX1_noteBy_X0_wayOf : GoodIn wsX1_noteBy (va_wsS RX1 110 yX0_wayOf wsX0_wayOf) := goodIn_app (goodIn_of _ (by decide +kernel)) ggX1_noteBy_X0_wayOf
theorem dX1_noteBy_0 : decode cX1_noteBy 0 = .ok (.aload_n 0, 1) := by decide +kernel
theorem dX1_noteBy_1 : decode cX1_noteBy 1 = .ok (.getfield 30, 3) := by decide +kernel
theorem dX1_noteBy_4 : decode cX1_noteBy 4 = .ok (.iload_n 2, 1) := by decide +kernel
theorem dX1_noteBy_5 : decode cX1_noteBy 5 = .ok (.iconst 1, 1) := by decide +kernel
theorem dX1_noteBy_6 : decode cX1_noteBy 6 = .ok (.iadd, 1) := by decide +kernel
theorem dX1_noteBy_7 : decode cX1_noteBy 7 = .ok (.iaload, 1) := by decide +kernel
theorem dX1_noteBy_8 : decode cX1_noteBy 8 = .ok (.istore_n 3, 1) := by decide +kernel
theorem dX1_noteBy_9 : decode cX1_noteBy 9 = .ok (.aload_n 0, 1) := by decide +kernel
theorem dX1_noteBy_10 : decode cX1_noteBy 10 = .ok (.getfield 30, 3) := by decide +kernel
theorem dX1_noteBy_13 : decode cX1_noteBy 13 = .ok (.iload_n 2, 1) := by decide +kernel
theorem dX1_noteBy_14 : decode cX1_noteBy 14 = .ok (.iconst 2, 1) := by decide +kernel
theorem dX1_noteBy_15 : decode cX1_noteBy 15 = .ok (.iadd, 1) := by decide +kernel
theorem dX1_noteBy_16 : decode cX1_noteBy 16 = .ok (.iaload, 1) := by decide +kernel
theorem dX1_noteBy_17 : decode cX1_noteBy 17 = .ok (.istore 4, 2) := by decide +kernel
theorem dX1_noteBy_19 : decode cX1_noteBy 19 = .ok (.aload_n 0, 1) := by decide +kernel
theorem dX1_noteBy_20 : decode cX1_noteBy 20 = .ok (.getfield 30, 3) := by decide +kernel
theorem dX1_noteBy_23 : decode cX1_noteBy 23 = .ok (.iload_n 2, 1) := by decide +kernel
theorem dX1_noteBy_24 : decode cX1_noteBy 24 = .ok (.iconst 3, 1) := by decide +kernel
theorem dX1_noteBy_25 : decode cX1_noteBy 25 = .ok (.iadd, 1) := by decide +kernel
theorem dX1_noteBy_26 : decode cX1_noteBy 26 = .ok (.iaload, 1) := by decide +kernel
theorem dX1_noteBy_27 : decode cX1_noteBy 27 = .ok (.istore 5, 2) := by decide +kernel
theorem dX1_noteBy_29 : decode cX1_noteBy 29 = .ok (.aload_n 0, 1) := by decide +kernel
theorem dX1_noteBy_30 : decode cX1_noteBy 30 = .ok (.getfield 30, 3) := by decide +kernel
theorem dX1_noteBy_33 : decode cX1_noteBy 33 = .ok (.iload_n 2, 1) := by decide +kernel
theorem dX1_noteBy_34 : decode cX1_noteBy 34 = .ok (.iconst 4, 1) := by decide +kernel
theorem dX1_noteBy_35 : decode cX1_noteBy 35 = .ok (.iadd, 1) := by decide +kernel
theorem dX1_noteBy_36 : decode cX1_noteBy 36 = .ok (.iaload, 1) := by decide +kernel
theorem dX1_noteBy_37 : decode cX1_noteBy 37 = .ok (.istore 6, 2) := by decide +kernel
theorem dX1_noteBy_39 : decode cX1_noteBy 39 = .ok (.aload_n 0, 1) := by decide +kernel
theorem dX1_noteBy_40 : decode cX1_noteBy 40 = .ok (.getfield 30, 3) := by decide +kernel
theorem dX1_noteBy_43 : decode cX1_noteBy 43 = .ok (.iload_n 2, 1) := by decide +kernel
theorem dX1_noteBy_44 : decode cX1_noteBy 44 = .ok (.iconst 5, 1) := by decide +kernel
theorem dX1_noteBy_45 : decode cX1_noteBy 45 = .ok (.iadd, 1) := by decide +kernel
theorem dX1_noteBy_46 : decode cX1_noteBy 46 = .ok (.iaload, 1) := by decide +kernel
theorem dX1_noteBy_47 : decode cX1_noteBy 47 = .ok (.istore 7, 2) := by decide +kernel
theorem dX1_noteBy_49 : decode cX1_noteBy 49 = .ok (.aload_n 0, 1) := by decide +kernel
theorem dX1_noteBy_50 : decode cX1_noteBy 50 = .ok (.getfield 30, 3) := by decide +kernel
theorem dX1_noteBy_53 : decode cX1_noteBy 53 = .ok (.iload_n 2, 1) := by decide +kernel
theorem dX1_noteBy_54 : decode cX1_noteBy 54 = .ok (.bipush 6, 2) := by decide +kernel
theorem dX1_noteBy_56 : decode cX1_noteBy 56 = .ok (.iadd, 1) := by decide +kernel
theorem dX1_noteBy_57 : decode cX1_noteBy 57 = .ok (.iaload, 1) := by decide +kernel
theorem dX1_noteBy_58 : decode cX1_noteBy 58 = .ok (.istore 8, 2) := by decide +kernel
theorem dX1_noteBy_60 : decode cX1_noteBy 60 = .ok (.iload_n 1, 1) := by decide +kernel
theorem dX1_noteBy_61 : decode cX1_noteBy 61 = .ok (.iload 5, 2) := by decide +kernel
theorem dX1_noteBy_63 : decode cX1_noteBy 63 = .ok (.iload 6, 2) := by decide +kernel
theorem dX1_noteBy_65 : decode cX1_noteBy 65 = .ok (.invokestatic 107, 3) := by decide +kernel
theorem dX1_noteBy_68 : decode cX1_noteBy 68 = .ok (.iload 8, 2) := by decide +kernel
theorem dX1_noteBy_70 : decode cX1_noteBy 70 = .ok (.if_icmp .ne 24, 3) := by decide +kernel
theorem dX1_noteBy_73 : decode cX1_noteBy 73 = .ok (.iload 8, 2) := by decide +kernel
theorem dX1_noteBy_75 : decode cX1_noteBy 75 = .ok (.ifCond .eq 15, 3) := by decide +kernel
theorem dX1_noteBy_78 : decode cX1_noteBy 78 = .ok (.iload_n 1, 1) := by decide +kernel
theorem dX1_noteBy_79 : decode cX1_noteBy 79 = .ok (.iload_n 3, 1) := by decide +kernel
theorem dX1_noteBy_80 : decode cX1_noteBy 80 = .ok (.iload 4, 2) := by decide +kernel
theorem dX1_noteBy_82 : decode cX1_noteBy 82 = .ok (.invokestatic 110, 3) := by decide +kernel
theorem dX1_noteBy_85 : decode cX1_noteBy 85 = .ok (.iload 7, 2) := by decide +kernel
theorem dX1_noteBy_87 : decode cX1_noteBy 87 = .ok (.if_icmp .ne 7, 3) := by decide +kernel
theorem dX1_noteBy_90 : decode cX1_noteBy 90 = .ok (.iconst 1, 1) := by decide +kernel
theorem dX1_noteBy_91 : decode cX1_noteBy 91 = .ok (.goto 4, 3) := by decide +kernel
theorem dX1_noteBy_94 : decode cX1_noteBy 94 = .ok (.iconst 0, 1) := by decide +kernel
theorem dX1_noteBy_95 : decode cX1_noteBy 95 = .ok (.ireturn, 1) := by decide +kernel
set_option maxRecDepth 20000 in
theorem ggX1_mostAlike_X1_alikeTo : GoodIn wsX1_mostAlike wsX1_alikeTo := goodIn_r _ [9, 10, 11, 12, 13, 14, 15, 16, 17, 18, 19, 20, 21, 22, 23, 24, 25, 26, 27, 28, 29, 30, 31, 32, 33, 34] (by decide +kernel) (by decide +kernel)
set_option maxRecDepth 20000 in
theorem gX1_mostAlike_X1_alikeTo : GoodIn wsX1_mostAlike (wsV RX1 113 RX1 yX1_alikeTo wsX1_alikeTo) := goodIn_app (goodIn_of _ (by decide +kernel)) ggX1_mostAlike_X1_alikeTo
theorem dX1_mostAlike_0 : decode cX1_mostAlike 0 = .ok (.iconst 0, 1) := by decide +kernel
theorem dX1_mostAlike_1 : decode cX1_mostAlike 1 = .ok (.istore 4, 2) := by decide +kernel
theorem dX1_mostAlike_3 : decode cX1_mostAlike 3 = .ok (.iconst 0, 1) := by decide +kernel
theorem dX1_mostAlike_4 : decode cX1_mostAlike 4 = .ok (.istore 5, 2) := by decide +kernel
theorem dX1_mostAlike_6 : decode cX1_mostAlike 6 = .ok (.iload 5, 2) := by decide +kernel
theorem dX1_mostAlike_8 : decode cX1_mostAlike 8 = .ok (.bipush 6, 2) := by decide +kernel
theorem dX1_mostAlike_10 : decode cX1_mostAlike 10 = .ok (.if_icmp .ge 35, 3) := by decide +kernel
theorem dX1_mostAlike_13 : decode cX1_mostAlike 13 = .ok (.iload_n 1, 1) := by decide +kernel
theorem dX1_mostAlike_14 : decode cX1_mostAlike 14 = .ok (.iload 5, 2) := by decide +kernel
theorem dX1_mostAlike_16 : decode cX1_mostAlike 16 = .ok (.ishr, 1) := by decide +kernel
theorem dX1_mostAlike_17 : decode cX1_mostAlike 17 = .ok (.iconst 1, 1) := by decide +kernel
theorem dX1_mostAlike_18 : decode cX1_mostAlike 18 = .ok (.iand, 1) := by decide +kernel
theorem dX1_mostAlike_19 : decode cX1_mostAlike 19 = .ok (.iconst 1, 1) := by decide +kernel
theorem dX1_mostAlike_20 : decode cX1_mostAlike 20 = .ok (.if_icmp .ne 19, 3) := by decide +kernel
theorem dX1_mostAlike_23 : decode cX1_mostAlike 23 = .ok (.iload 4, 2) := by decide +kernel
theorem dX1_mostAlike_25 : decode cX1_mostAlike 25 = .ok (.aload_n 0, 1) := by decide +kernel
theorem dX1_mostAlike_26 : decode cX1_mostAlike 26 = .ok (.iload 5, 2) := by decide +kernel
theorem dX1_mostAlike_28 : decode cX1_mostAlike 28 = .ok (.iload_n 1, 1) := by decide +kernel
theorem dX1_mostAlike_29 : decode cX1_mostAlike 29 = .ok (.iload_n 2, 1) := by decide +kernel
theorem dX1_mostAlike_30 : decode cX1_mostAlike 30 = .ok (.iload_n 3, 1) := by decide +kernel
theorem dX1_mostAlike_31 : decode cX1_mostAlike 31 = .ok (.invokevirtual 113, 3) := by decide +kernel
theorem dX1_mostAlike_34 : decode cX1_mostAlike 34 = .ok (.invokestatic 68, 3) := by decide +kernel
theorem dX1_mostAlike_37 : decode cX1_mostAlike 37 = .ok (.istore 4, 2) := by decide +kernel
theorem dX1_mostAlike_39 : decode cX1_mostAlike 39 = .ok (.iinc 5 1, 3) := by decide +kernel
theorem dX1_mostAlike_42 : decode cX1_mostAlike 42 = .ok (.goto (-36), 3) := by decide +kernel
theorem dX1_mostAlike_45 : decode cX1_mostAlike 45 = .ok (.iload 4, 2) := by decide +kernel
theorem dX1_mostAlike_47 : decode cX1_mostAlike 47 = .ok (.ireturn, 1) := by decide +kernel
set_option maxRecDepth 20000 in
theorem ggX1_alikeTo_X0_tracks : GoodIn wsX1_alikeTo wsX0_tracks := goodIn_r _ [6, 7, 8, 5, 9, 10, 11, 12] (by decide +kernel) (by decide +kernel)
set_option maxRecDepth 20000 in
theorem gX1_alikeTo_X0_tracks : GoodIn wsX1_alikeTo (va_wsS RX1 116 yX0_tracks wsX0_tracks) := goodIn_app (goodIn_of _ (by decide +kernel)) ggX1_alikeTo_X0_tracks
theorem dX1_alikeTo_0 : decode cX1_alikeTo 0 = .ok (.aload_n 0, 1) := by decide +kernel
theorem dX1_alikeTo_1 : decode cX1_alikeTo 1 = .ok (.getfield 9, 3) := by decide +kernel
theorem dX1_alikeTo_4 : decode cX1_alikeTo 4 = .ok (.iload_n 3, 1) := by decide +kernel
theorem dX1_alikeTo_5 : decode cX1_alikeTo 5 = .ok (.bipush 12, 2) := by decide +kernel
theorem dX1_alikeTo_7 : decode cX1_alikeTo 7 = .ok (.irem, 1) := by decide +kernel
theorem dX1_alikeTo_8 : decode cX1_alikeTo 8 = .ok (.iaload, 1) := by decide +kernel
theorem dX1_alikeTo_9 : decode cX1_alikeTo 9 = .ok (.istore 5, 2) := by decide +kernel
theorem dX1_alikeTo_11 : decode cX1_alikeTo 11 = .ok (.aload_n 0, 1) := by decide +kernel
theorem dX1_alikeTo_12 : decode cX1_alikeTo 12 = .ok (.getfield 15, 3) := by decide +kernel
theorem dX1_alikeTo_15 : decode cX1_alikeTo 15 = .ok (.iload_n 3, 1) := by decide +kernel
theorem dX1_alikeTo_16 : decode cX1_alikeTo 16 = .ok (.bipush 12, 2) := by decide +kernel
theorem dX1_alikeTo_18 : decode cX1_alikeTo 18 = .ok (.irem, 1) := by decide +kernel
theorem dX1_alikeTo_19 : decode cX1_alikeTo 19 = .ok (.iaload, 1) := by decide +kernel
theorem dX1_alikeTo_20 : decode cX1_alikeTo 20 = .ok (.istore 6, 2) := by decide +kernel
theorem dX1_alikeTo_22 : decode cX1_alikeTo 22 = .ok (.iload_n 1, 1) := by decide +kernel
theorem dX1_alikeTo_23 : decode cX1_alikeTo 23 = .ok (.iload_n 3, 1) := by decide +kernel
theorem dX1_alikeTo_24 : decode cX1_alikeTo 24 = .ok (.iload 5, 2) := by decide +kernel
theorem dX1_alikeTo_26 : decode cX1_alikeTo 26 = .ok (.iload 6, 2) := by decide +kernel
theorem dX1_alikeTo_28 : decode cX1_alikeTo 28 = .ok (.iload 4, 2) := by decide +kernel
theorem dX1_alikeTo_30 : decode cX1_alikeTo 30 = .ok (.invokestatic 116, 3) := by decide +kernel
theorem dX1_alikeTo_33 : decode cX1_alikeTo 33 = .ok (.istore 7, 2) := by decide +kernel
theorem dX1_alikeTo_35 : decode cX1_alikeTo 35 = .ok (.iconst 0, 1) := by decide +kernel
theorem dX1_alikeTo_36 : decode cX1_alikeTo 36 = .ok (.istore 8, 2) := by decide +kernel
theorem dX1_alikeTo_38 : decode cX1_alikeTo 38 = .ok (.iconst 0, 1) := by decide +kernel
theorem dX1_alikeTo_39 : decode cX1_alikeTo 39 = .ok (.istore 9, 2) := by decide +kernel
theorem dX1_alikeTo_41 : decode cX1_alikeTo 41 = .ok (.iload 9, 2) := by decide +kernel
theorem dX1_alikeTo_43 : decode cX1_alikeTo 43 = .ok (.bipush 6, 2) := by decide +kernel
theorem dX1_alikeTo_45 : decode cX1_alikeTo 45 = .ok (.if_icmp .ge 39, 3) := by decide +kernel
theorem dX1_alikeTo_48 : decode cX1_alikeTo 48 = .ok (.iload_n 2, 1) := by decide +kernel
theorem dX1_alikeTo_49 : decode cX1_alikeTo 49 = .ok (.iload 9, 2) := by decide +kernel
theorem dX1_alikeTo_51 : decode cX1_alikeTo 51 = .ok (.ishr, 1) := by decide +kernel
theorem dX1_alikeTo_52 : decode cX1_alikeTo 52 = .ok (.iconst 1, 1) := by decide +kernel
theorem dX1_alikeTo_53 : decode cX1_alikeTo 53 = .ok (.iand, 1) := by decide +kernel
theorem dX1_alikeTo_54 : decode cX1_alikeTo 54 = .ok (.iconst 1, 1) := by decide +kernel
theorem dX1_alikeTo_55 : decode cX1_alikeTo 55 = .ok (.if_icmp .ne 23, 3) := by decide +kernel
theorem dX1_alikeTo_58 : decode cX1_alikeTo 58 = .ok (.iload 9, 2) := by decide +kernel
theorem dX1_alikeTo_60 : decode cX1_alikeTo 60 = .ok (.iload_n 3, 1) := by decide +kernel
theorem dX1_alikeTo_61 : decode cX1_alikeTo 61 = .ok (.iload 5, 2) := by decide +kernel
theorem dX1_alikeTo_63 : decode cX1_alikeTo 63 = .ok (.iload 6, 2) := by decide +kernel
theorem dX1_alikeTo_65 : decode cX1_alikeTo 65 = .ok (.iload 4, 2) := by decide +kernel
theorem dX1_alikeTo_67 : decode cX1_alikeTo 67 = .ok (.invokestatic 116, 3) := by decide +kernel
theorem dX1_alikeTo_70 : decode cX1_alikeTo 70 = .ok (.iload 7, 2) := by decide +kernel
theorem dX1_alikeTo_72 : decode cX1_alikeTo 72 = .ok (.if_icmp .ne 6, 3) := by decide +kernel
theorem dX1_alikeTo_75 : decode cX1_alikeTo 75 = .ok (.iinc 8 1, 3) := by decide +kernel
theorem dX1_alikeTo_78 : decode cX1_alikeTo 78 = .ok (.iinc 9 1, 3) := by decide +kernel
theorem dX1_alikeTo_81 : decode cX1_alikeTo 81 = .ok (.goto (-40), 3) := by decide +kernel
theorem dX1_alikeTo_84 : decode cX1_alikeTo 84 = .ok (.iload 8, 2) := by decide +kernel
theorem dX1_alikeTo_86 : decode cX1_alikeTo 86 = .ok (.ireturn, 1) := by decide +kernel
theorem dX2_init_0 : decode cX2_init 0 = .ok (.aload_n 0, 1) := by decide +kernel
theorem dX2_init_1 : decode cX2_init 1 = .ok (.invokespecial 3, 3) := by decide +kernel
theorem dX2_init_4 : decode cX2_init 4 = .ok (.aload_n 0, 1) := by decide +kernel
theorem dX2_init_5 : decode cX2_init 5 = .ok (.sipush 150, 3) := by decide +kernel
theorem dX2_init_8 : decode cX2_init 8 = .ok (.newarray .int, 2) := by decide +kernel
theorem dX2_init_10 : decode cX2_init 10 = .ok (.putfield 9, 3) := by decide +kernel
theorem dX2_init_13 : decode cX2_init 13 = .ok (.return_, 1) := by decide +kernel
