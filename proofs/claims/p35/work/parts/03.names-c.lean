set_option maxRecDepth 20000 in
theorem ggX3_init_X1_init : GoodIn wsX3_init wsX1_init := goodIn_r _ [22, 23, 2, 3, 17, 24, 25, 26, 27, 28, 29, 30, 31, 32, 33, 34, 35, 40, 41, 42, 43, 44, 45, 46, 47, 48, 49, 50, 51, 52] (by decide +kernel) (by decide +kernel)
set_option maxRecDepth 20000 in
theorem gX3_init_X1_init : GoodIn wsX3_init (wsX1_init) := ggX3_init_X1_init
set_option maxRecDepth 20000 in
theorem ggX3_init_X2_init : GoodIn wsX3_init wsX2_init := goodIn_r _ [37, 38, 2, 3, 17, 39, 65, 66, 67, 68] (by decide +kernel) (by decide +kernel)
set_option maxRecDepth 20000 in
theorem gX3_init_X2_init_n25 : GoodIn wsX3_init (wsX2_init) := ggX3_init_X2_init
theorem dX3_init_0 : decode cX3_init 0 = .ok (.aload_n 0, 1) := by decide +kernel
theorem dX3_init_1 : decode cX3_init 1 = .ok (.invokespecial 1, 3) := by decide +kernel
theorem dX3_init_4 : decode cX3_init 4 = .ok (.aload_n 0, 1) := by decide +kernel
theorem dX3_init_5 : decode cX3_init 5 = .ok (.new 7, 3) := by decide +kernel
theorem dX3_init_8 : decode cX3_init 8 = .ok (.dup, 1) := by decide +kernel
theorem dX3_init_9 : decode cX3_init 9 = .ok (.invokespecial 9, 3) := by decide +kernel
theorem dX3_init_12 : decode cX3_init 12 = .ok (.putfield 10, 3) := by decide +kernel
theorem dX3_init_15 : decode cX3_init 15 = .ok (.aload_n 0, 1) := by decide +kernel
theorem dX3_init_16 : decode cX3_init 16 = .ok (.new 7, 3) := by decide +kernel
theorem dX3_init_19 : decode cX3_init 19 = .ok (.dup, 1) := by decide +kernel
theorem dX3_init_20 : decode cX3_init 20 = .ok (.invokespecial 9, 3) := by decide +kernel
theorem dX3_init_23 : decode cX3_init 23 = .ok (.putfield 16, 3) := by decide +kernel
theorem dX3_init_26 : decode cX3_init 26 = .ok (.aload_n 0, 1) := by decide +kernel
theorem dX3_init_27 : decode cX3_init 27 = .ok (.iconst 2, 1) := by decide +kernel
theorem dX3_init_28 : decode cX3_init 28 = .ok (.anewarray 7, 3) := by decide +kernel
theorem dX3_init_31 : decode cX3_init 31 = .ok (.putfield 19, 3) := by decide +kernel
theorem dX3_init_34 : decode cX3_init 34 = .ok (.aload_n 0, 1) := by decide +kernel
theorem dX3_init_35 : decode cX3_init 35 = .ok (.new 23, 3) := by decide +kernel
theorem dX3_init_38 : decode cX3_init 38 = .ok (.dup, 1) := by decide +kernel
theorem dX3_init_39 : decode cX3_init 39 = .ok (.invokespecial 25, 3) := by decide +kernel
theorem dX3_init_42 : decode cX3_init 42 = .ok (.putfield 26, 3) := by decide +kernel
theorem dX3_init_45 : decode cX3_init 45 = .ok (.aload_n 0, 1) := by decide +kernel
theorem dX3_init_46 : decode cX3_init 46 = .ok (.bipush 36, 2) := by decide +kernel
theorem dX3_init_48 : decode cX3_init 48 = .ok (.newarray .long, 2) := by decide +kernel
theorem dX3_init_50 : decode cX3_init 50 = .ok (.putfield 30, 3) := by decide +kernel
theorem dX3_init_53 : decode cX3_init 53 = .ok (.aload_n 0, 1) := by decide +kernel
theorem dX3_init_54 : decode cX3_init 54 = .ok (.bipush 36, 2) := by decide +kernel
theorem dX3_init_56 : decode cX3_init 56 = .ok (.newarray .long, 2) := by decide +kernel
theorem dX3_init_58 : decode cX3_init 58 = .ok (.putfield 34, 3) := by decide +kernel
theorem dX3_init_61 : decode cX3_init 61 = .ok (.aload_n 0, 1) := by decide +kernel
theorem dX3_init_62 : decode cX3_init 62 = .ok (.bipush 12, 2) := by decide +kernel
theorem dX3_init_64 : decode cX3_init 64 = .ok (.newarray .int, 2) := by decide +kernel
theorem dX3_init_66 : decode cX3_init 66 = .ok (.putfield 37, 3) := by decide +kernel
theorem dX3_init_69 : decode cX3_init 69 = .ok (.aload_n 0, 1) := by decide +kernel
theorem dX3_init_70 : decode cX3_init 70 = .ok (.lconst 1, 1) := by decide +kernel
theorem dX3_init_71 : decode cX3_init 71 = .ok (.putfield 41, 3) := by decide +kernel
theorem dX3_init_74 : decode cX3_init 74 = .ok (.return_, 1) := by decide +kernel
set_option maxRecDepth 20000 in
theorem ggX3_sea_X3_within : GoodIn wsX3_sea wsX3_within := goodIn_r _ [6] (by decide +kernel) (by decide +kernel)
set_option maxRecDepth 20000 in
theorem gX3_sea_X3_within : GoodIn wsX3_sea (va_wsS RX3 45 yX3_within wsX3_within) := goodIn_app (goodIn_of _ (by decide +kernel)) ggX3_sea_X3_within
set_option maxRecDepth 20000 in
theorem ggX3_sea_X3_refuseBad : GoodIn wsX3_sea wsX3_refuseBad := goodIn_r _ [10, 11, 28, 29, 30, 31, 32, 33, 34, 35, 36, 37, 38, 39] (by decide +kernel) (by decide +kernel)
set_option maxRecDepth 20000 in
theorem gX3_sea_X3_refuseBad : GoodIn wsX3_sea (wsV RX3 49 RX3 yX3_refuseBad wsX3_refuseBad) := goodIn_app (goodIn_of _ (by decide +kernel)) ggX3_sea_X3_refuseBad
set_option maxRecDepth 20000 in
theorem ggX3_sea_X1_begin : GoodIn wsX3_sea wsX1_begin := goodIn_r _ [16, 17, 18, 19, 20, 21, 22, 23, 24, 25, 26, 27, 40, 41, 42, 43, 44, 45, 46, 47, 48, 49, 50, 51, 52] (by decide +kernel) (by decide +kernel)
set_option maxRecDepth 20000 in
theorem gX3_sea_X1_begin : GoodIn wsX3_sea (wsV RX3 57 RX1 yX1_begin wsX1_begin) := goodIn_app (goodIn_of _ (by decide +kernel)) ggX3_sea_X1_begin
theorem dX3_sea_0 : decode cX3_sea 0 = .ok (.iload_n 1, 1) := by decide +kernel
theorem dX3_sea_1 : decode cX3_sea 1 = .ok (.iconst 0, 1) := by decide +kernel
theorem dX3_sea_2 : decode cX3_sea 2 = .ok (.bipush 99, 2) := by decide +kernel
theorem dX3_sea_4 : decode cX3_sea 4 = .ok (.invokestatic 45, 3) := by decide +kernel
theorem dX3_sea_7 : decode cX3_sea 7 = .ok (.ifCond .ne 8, 3) := by decide +kernel
theorem dX3_sea_10 : decode cX3_sea 10 = .ok (.aload_n 0, 1) := by decide +kernel
theorem dX3_sea_11 : decode cX3_sea 11 = .ok (.invokevirtual 49, 3) := by decide +kernel
theorem dX3_sea_14 : decode cX3_sea 14 = .ok (.ireturn, 1) := by decide +kernel
theorem dX3_sea_15 : decode cX3_sea 15 = .ok (.aload_n 0, 1) := by decide +kernel
theorem dX3_sea_16 : decode cX3_sea 16 = .ok (.getfield 10, 3) := by decide +kernel
theorem dX3_sea_19 : decode cX3_sea 19 = .ok (.getfield 53, 3) := by decide +kernel
theorem dX3_sea_22 : decode cX3_sea 22 = .ok (.istore_n 2, 1) := by decide +kernel
theorem dX3_sea_23 : decode cX3_sea 23 = .ok (.aload_n 0, 1) := by decide +kernel
theorem dX3_sea_24 : decode cX3_sea 24 = .ok (.getfield 10, 3) := by decide +kernel
theorem dX3_sea_27 : decode cX3_sea 27 = .ok (.iload_n 1, 1) := by decide +kernel
theorem dX3_sea_28 : decode cX3_sea 28 = .ok (.invokevirtual 57, 3) := by decide +kernel
theorem dX3_sea_31 : decode cX3_sea 31 = .ok (.iload_n 2, 1) := by decide +kernel
theorem dX3_sea_32 : decode cX3_sea 32 = .ok (.ireturn, 1) := by decide +kernel
set_option maxRecDepth 20000 in
theorem ggX3_wind_X3_within : GoodIn wsX3_wind wsX3_within := goodIn_r _ [7] (by decide +kernel) (by decide +kernel)
set_option maxRecDepth 20000 in
theorem gX3_wind_X3_within : GoodIn wsX3_wind (va_wsS RX3 45 yX3_within wsX3_within) := goodIn_app (goodIn_of _ (by decide +kernel)) ggX3_wind_X3_within
set_option maxRecDepth 20000 in
theorem ggX3_wind_X3_isWind : GoodIn wsX3_wind wsX3_isWind := goodIn_r _ [10, 4, 5, 6, 7] (by decide +kernel) (by decide +kernel)
set_option maxRecDepth 20000 in
theorem gX3_wind_X3_isWind : GoodIn wsX3_wind (va_wsS RX3 61 yX3_isWind wsX3_isWind) := goodIn_app (goodIn_of _ (by decide +kernel)) ggX3_wind_X3_isWind
set_option maxRecDepth 20000 in
theorem ggX3_wind_X3_refuseBad : GoodIn wsX3_wind wsX3_refuseBad := goodIn_r _ [14, 15, 24, 25, 26, 27, 28, 29, 30, 31, 32, 33, 34, 35] (by decide +kernel) (by decide +kernel)
set_option maxRecDepth 20000 in
theorem gX3_wind_X3_refuseBad : GoodIn wsX3_wind (wsV RX3 49 RX3 yX3_refuseBad wsX3_refuseBad) := goodIn_app (goodIn_of _ (by decide +kernel)) ggX3_wind_X3_refuseBad
set_option maxRecDepth 20000 in
theorem ggX3_wind_X1_tellWind : GoodIn wsX3_wind wsX1_tellWind := goodIn_r _ [20, 21, 22, 23, 36, 37, 38, 39, 40, 41, 42, 43, 44, 45, 46, 47, 48] (by decide +kernel) (by decide +kernel)
set_option maxRecDepth 20000 in
theorem gX3_wind_X1_tellWind : GoodIn wsX3_wind (wsV RX3 71 RX1 yX1_tellWind wsX1_tellWind) := goodIn_app (goodIn_of _ (by decide +kernel)) ggX3_wind_X1_tellWind
theorem dX3_wind_0 : decode cX3_wind 0 = .ok (.iload_n 1, 1) := by decide +kernel
theorem dX3_wind_1 : decode cX3_wind 1 = .ok (.iconst 0, 1) := by decide +kernel
theorem dX3_wind_2 : decode cX3_wind 2 = .ok (.bipush 11, 2) := by decide +kernel
theorem dX3_wind_4 : decode cX3_wind 4 = .ok (.invokestatic 45, 3) := by decide +kernel
theorem dX3_wind_7 : decode cX3_wind 7 = .ok (.ifCond .eq 11, 3) := by decide +kernel
theorem dX3_wind_10 : decode cX3_wind 10 = .ok (.iload_n 2, 1) := by decide +kernel
theorem dX3_wind_11 : decode cX3_wind 11 = .ok (.iload_n 3, 1) := by decide +kernel
theorem dX3_wind_12 : decode cX3_wind 12 = .ok (.invokestatic 61, 3) := by decide +kernel
theorem dX3_wind_15 : decode cX3_wind 15 = .ok (.ifCond .ne 8, 3) := by decide +kernel
theorem dX3_wind_18 : decode cX3_wind 18 = .ok (.aload_n 0, 1) := by decide +kernel
theorem dX3_wind_19 : decode cX3_wind 19 = .ok (.invokevirtual 49, 3) := by decide +kernel
theorem dX3_wind_22 : decode cX3_wind 22 = .ok (.ireturn, 1) := by decide +kernel
theorem dX3_wind_23 : decode cX3_wind 23 = .ok (.bipush 10, 2) := by decide +kernel
theorem dX3_wind_25 : decode cX3_wind 25 = .ok (.aload_n 0, 1) := by decide +kernel
theorem dX3_wind_26 : decode cX3_wind 26 = .ok (.getfield 10, 3) := by decide +kernel
theorem dX3_wind_29 : decode cX3_wind 29 = .ok (.getfield 65, 3) := by decide +kernel
theorem dX3_wind_32 : decode cX3_wind 32 = .ok (.iload_n 1, 1) := by decide +kernel
theorem dX3_wind_33 : decode cX3_wind 33 = .ok (.iaload, 1) := by decide +kernel
theorem dX3_wind_34 : decode cX3_wind 34 = .ok (.imul, 1) := by decide +kernel
theorem dX3_wind_35 : decode cX3_wind 35 = .ok (.aload_n 0, 1) := by decide +kernel
theorem dX3_wind_36 : decode cX3_wind 36 = .ok (.getfield 10, 3) := by decide +kernel
theorem dX3_wind_39 : decode cX3_wind 39 = .ok (.getfield 68, 3) := by decide +kernel
theorem dX3_wind_42 : decode cX3_wind 42 = .ok (.iload_n 1, 1) := by decide +kernel
theorem dX3_wind_43 : decode cX3_wind 43 = .ok (.iaload, 1) := by decide +kernel
theorem dX3_wind_44 : decode cX3_wind 44 = .ok (.iadd, 1) := by decide +kernel
theorem dX3_wind_45 : decode cX3_wind 45 = .ok (.istore 4, 2) := by decide +kernel
theorem dX3_wind_47 : decode cX3_wind 47 = .ok (.aload_n 0, 1) := by decide +kernel
theorem dX3_wind_48 : decode cX3_wind 48 = .ok (.getfield 10, 3) := by decide +kernel
theorem dX3_wind_51 : decode cX3_wind 51 = .ok (.iload_n 1, 1) := by decide +kernel
theorem dX3_wind_52 : decode cX3_wind 52 = .ok (.iload_n 2, 1) := by decide +kernel
theorem dX3_wind_53 : decode cX3_wind 53 = .ok (.iload_n 3, 1) := by decide +kernel
theorem dX3_wind_54 : decode cX3_wind 54 = .ok (.invokevirtual 71, 3) := by decide +kernel
theorem dX3_wind_57 : decode cX3_wind 57 = .ok (.iload 4, 2) := by decide +kernel
theorem dX3_wind_59 : decode cX3_wind 59 = .ok (.ireturn, 1) := by decide +kernel
set_option maxRecDepth 20000 in
theorem ggX3_floe_X3_isKind : GoodIn wsX3_floe wsX3_isKind := goodIn_r _ [6, 7, 8, 5, 9] (by decide +kernel) (by decide +kernel)
set_option maxRecDepth 20000 in
theorem gX3_floe_X3_isKind : GoodIn wsX3_floe (va_wsS RX3 75 yX3_isKind wsX3_isKind) := goodIn_app (goodIn_of _ (by decide +kernel)) ggX3_floe_X3_isKind
set_option maxRecDepth 20000 in
theorem ggX3_floe_X3_isCell : GoodIn wsX3_floe wsX3_isCell := goodIn_r _ [12, 7, 8, 5, 9] (by decide +kernel) (by decide +kernel)
set_option maxRecDepth 20000 in
theorem gX3_floe_X3_isCell : GoodIn wsX3_floe (va_wsS RX3 79 yX3_isCell wsX3_isCell) := goodIn_app (goodIn_of _ (by decide +kernel)) ggX3_floe_X3_isCell
set_option maxRecDepth 20000 in
theorem ggX3_floe_X3_within : GoodIn wsX3_floe wsX3_within := goodIn_r _ [9] (by decide +kernel) (by decide +kernel)
set_option maxRecDepth 20000 in
theorem gX3_floe_X3_within : GoodIn wsX3_floe (va_wsS RX3 45 yX3_within wsX3_within) := goodIn_app (goodIn_of _ (by decide +kernel)) ggX3_floe_X3_within
set_option maxRecDepth 20000 in
theorem ggX3_floe_X3_refuseBad : GoodIn wsX3_floe wsX3_refuseBad := goodIn_r _ [16, 17, 33, 34, 35, 36, 37, 38, 39, 40, 41, 42, 43, 44] (by decide +kernel) (by decide +kernel)
set_option maxRecDepth 20000 in
theorem gX3_floe_X3_refuseBad : GoodIn wsX3_floe (wsV RX3 49 RX3 yX3_refuseBad wsX3_refuseBad) := goodIn_app (goodIn_of _ (by decide +kernel)) ggX3_floe_X3_refuseBad
set_option maxRecDepth 20000 in
theorem ggX3_floe_X3_refuseFull : GoodIn wsX3_floe wsX3_refuseFull := goodIn_r _ [21, 22, 33, 34, 35, 36, 37, 38, 39, 40, 41, 42, 43, 44] (by decide +kernel) (by decide +kernel)
set_option maxRecDepth 20000 in
theorem gX3_floe_X3_refuseFull : GoodIn wsX3_floe (wsV RX3 82 RX3 yX3_refuseFull wsX3_refuseFull) := goodIn_app (goodIn_of _ (by decide +kernel)) ggX3_floe_X3_refuseFull
set_option maxRecDepth 20000 in
theorem ggX3_floe_X1_addFloe : GoodIn wsX3_floe wsX1_addFloe := goodIn_r _ [27, 28, 29, 30, 31, 32, 45, 46, 47, 48, 49, 50, 51, 52, 53, 54, 55, 56, 57] (by decide +kernel) (by decide +kernel)
set_option maxRecDepth 20000 in
theorem gX3_floe_X1_addFloe : GoodIn wsX3_floe (wsV RX3 85 RX1 yX1_addFloe wsX1_addFloe) := goodIn_app (goodIn_of _ (by decide +kernel)) ggX3_floe_X1_addFloe
theorem dX3_floe_0 : decode cX3_floe 0 = .ok (.iload_n 1, 1) := by decide +kernel
theorem dX3_floe_1 : decode cX3_floe 1 = .ok (.invokestatic 75, 3) := by decide +kernel
theorem dX3_floe_4 : decode cX3_floe 4 = .ok (.ifCond .eq 20, 3) := by decide +kernel
theorem dX3_floe_7 : decode cX3_floe 7 = .ok (.iload_n 2, 1) := by decide +kernel
theorem dX3_floe_8 : decode cX3_floe 8 = .ok (.invokestatic 79, 3) := by decide +kernel
theorem dX3_floe_11 : decode cX3_floe 11 = .ok (.ifCond .eq 13, 3) := by decide +kernel
theorem dX3_floe_14 : decode cX3_floe 14 = .ok (.iload_n 3, 1) := by decide +kernel
theorem dX3_floe_15 : decode cX3_floe 15 = .ok (.iconst 0, 1) := by decide +kernel
theorem dX3_floe_16 : decode cX3_floe 16 = .ok (.bipush 60, 2) := by decide +kernel
theorem dX3_floe_18 : decode cX3_floe 18 = .ok (.invokestatic 45, 3) := by decide +kernel
theorem dX3_floe_21 : decode cX3_floe 21 = .ok (.ifCond .ne 8, 3) := by decide +kernel
theorem dX3_floe_24 : decode cX3_floe 24 = .ok (.aload_n 0, 1) := by decide +kernel
theorem dX3_floe_25 : decode cX3_floe 25 = .ok (.invokevirtual 49, 3) := by decide +kernel
theorem dX3_floe_28 : decode cX3_floe 28 = .ok (.ireturn, 1) := by decide +kernel
theorem dX3_floe_29 : decode cX3_floe 29 = .ok (.aload_n 0, 1) := by decide +kernel
theorem dX3_floe_30 : decode cX3_floe 30 = .ok (.getfield 10, 3) := by decide +kernel
theorem dX3_floe_33 : decode cX3_floe 33 = .ok (.getfield 53, 3) := by decide +kernel
theorem dX3_floe_36 : decode cX3_floe 36 = .ok (.iconst 5, 1) := by decide +kernel
theorem dX3_floe_37 : decode cX3_floe 37 = .ok (.if_icmp .lt 8, 3) := by decide +kernel
theorem dX3_floe_40 : decode cX3_floe 40 = .ok (.aload_n 0, 1) := by decide +kernel
theorem dX3_floe_41 : decode cX3_floe 41 = .ok (.invokevirtual 82, 3) := by decide +kernel
theorem dX3_floe_44 : decode cX3_floe 44 = .ok (.ireturn, 1) := by decide +kernel
theorem dX3_floe_45 : decode cX3_floe 45 = .ok (.aload_n 0, 1) := by decide +kernel
theorem dX3_floe_46 : decode cX3_floe 46 = .ok (.getfield 10, 3) := by decide +kernel
theorem dX3_floe_49 : decode cX3_floe 49 = .ok (.iload_n 1, 1) := by decide +kernel
theorem dX3_floe_50 : decode cX3_floe 50 = .ok (.iload_n 2, 1) := by decide +kernel
theorem dX3_floe_51 : decode cX3_floe 51 = .ok (.iload_n 3, 1) := by decide +kernel
theorem dX3_floe_52 : decode cX3_floe 52 = .ok (.invokevirtual 85, 3) := by decide +kernel
theorem dX3_floe_55 : decode cX3_floe 55 = .ok (.aload_n 0, 1) := by decide +kernel
theorem dX3_floe_56 : decode cX3_floe 56 = .ok (.getfield 10, 3) := by decide +kernel
theorem dX3_floe_59 : decode cX3_floe 59 = .ok (.getfield 53, 3) := by decide +kernel
theorem dX3_floe_62 : decode cX3_floe 62 = .ok (.iconst 1, 1) := by decide +kernel
theorem dX3_floe_63 : decode cX3_floe 63 = .ok (.isub, 1) := by decide +kernel
theorem dX3_floe_64 : decode cX3_floe 64 = .ok (.ireturn, 1) := by decide +kernel
set_option maxRecDepth 20000 in
theorem ggX3_month_X3_within : GoodIn wsX3_month wsX3_within := goodIn_r _ [5] (by decide +kernel) (by decide +kernel)
set_option maxRecDepth 20000 in
theorem gX3_month_X3_within : GoodIn wsX3_month (va_wsS RX3 45 yX3_within wsX3_within) := goodIn_app (goodIn_of _ (by decide +kernel)) ggX3_month_X3_within
set_option maxRecDepth 20000 in
theorem ggX3_month_X3_refuseBad : GoodIn wsX3_month wsX3_refuseBad := goodIn_r _ [9, 10, 61, 62, 63, 64, 65, 66, 67, 68, 69, 70, 71, 72] (by decide +kernel) (by decide +kernel)
set_option maxRecDepth 20000 in
theorem gX3_month_X3_refuseBad : GoodIn wsX3_month (wsV RX3 49 RX3 yX3_refuseBad wsX3_refuseBad) := goodIn_app (goodIn_of _ (by decide +kernel)) ggX3_month_X3_refuseBad
set_option maxRecDepth 20000 in
theorem ggX3_month_X1_keepToUndo : GoodIn wsX3_month wsX1_keepToUndo := goodIn_r _ [15, 16, 17, 18, 19, 20, 21, 22, 23, 24, 73, 74, 75, 76, 77, 78, 79, 80, 81, 82, 83, 84, 85] (by decide +kernel) (by decide +kernel)
set_option maxRecDepth 20000 in
theorem gX3_month_X1_keepToUndo : GoodIn wsX3_month (wsV RX3 105 RX1 yX1_keepToUndo wsX1_keepToUndo) := goodIn_app (goodIn_of _ (by decide +kernel)) ggX3_month_X1_keepToUndo
set_option maxRecDepth 20000 in
theorem ggX3_month_X1_passMonth : GoodIn wsX3_month wsX1_passMonth := goodIn_r _ [28, 22, 29, 23, 30, 24, 31, 32, 33, 34, 35, 36, 37, 14, 38, 39, 40, 41, 42, 43, 44, 45, 46, 47, 48, 49, 50, 51, 52, 53, 54, 73, 74, 75, 76, 77, 78, 79, 80, 81, 82, 83, 84, 85] (by decide +kernel) (by decide +kernel)
set_option maxRecDepth 20000 in
theorem gX3_month_X1_passMonth : GoodIn wsX3_month (wsV RX3 108 RX1 yX1_passMonth wsX1_passMonth) := goodIn_app (goodIn_of _ (by decide +kernel)) ggX3_month_X1_passMonth
set_option maxRecDepth 20000 in
theorem ggX3_month_X1_floesOut : GoodIn wsX3_month wsX1_floesOut := goodIn_r _ [58, 29, 23, 59, 4, 60, 73, 74, 75, 76, 77, 78, 79, 80, 81, 82, 83, 84, 85] (by decide +kernel) (by decide +kernel)
set_option maxRecDepth 20000 in
theorem gX3_month_X1_floesOut : GoodIn wsX3_month (wsV RX3 111 RX1 yX1_floesOut wsX1_floesOut) := goodIn_app (goodIn_of _ (by decide +kernel)) ggX3_month_X1_floesOut
theorem dX3_month_0 : decode cX3_month 0 = .ok (.iload_n 1, 1) := by decide +kernel
theorem dX3_month_1 : decode cX3_month 1 = .ok (.iconst 1, 1) := by decide +kernel
theorem dX3_month_2 : decode cX3_month 2 = .ok (.bipush 60, 2) := by decide +kernel
theorem dX3_month_4 : decode cX3_month 4 = .ok (.invokestatic 45, 3) := by decide +kernel
theorem dX3_month_7 : decode cX3_month 7 = .ok (.ifCond .ne 8, 3) := by decide +kernel
theorem dX3_month_10 : decode cX3_month 10 = .ok (.aload_n 0, 1) := by decide +kernel
theorem dX3_month_11 : decode cX3_month 11 = .ok (.invokevirtual 49, 3) := by decide +kernel
theorem dX3_month_14 : decode cX3_month 14 = .ok (.ireturn, 1) := by decide +kernel
theorem dX3_month_15 : decode cX3_month 15 = .ok (.aload_n 0, 1) := by decide +kernel
theorem dX3_month_16 : decode cX3_month 16 = .ok (.getfield 10, 3) := by decide +kernel
theorem dX3_month_19 : decode cX3_month 19 = .ok (.invokevirtual 105, 3) := by decide +kernel
theorem dX3_month_22 : decode cX3_month 22 = .ok (.iconst 0, 1) := by decide +kernel
theorem dX3_month_23 : decode cX3_month 23 = .ok (.istore_n 2, 1) := by decide +kernel
theorem dX3_month_24 : decode cX3_month 24 = .ok (.iload_n 2, 1) := by decide +kernel
theorem dX3_month_25 : decode cX3_month 25 = .ok (.iload_n 1, 1) := by decide +kernel
theorem dX3_month_26 : decode cX3_month 26 = .ok (.if_icmp .ge 16, 3) := by decide +kernel
theorem dX3_month_29 : decode cX3_month 29 = .ok (.aload_n 0, 1) := by decide +kernel
theorem dX3_month_30 : decode cX3_month 30 = .ok (.getfield 10, 3) := by decide +kernel
theorem dX3_month_33 : decode cX3_month 33 = .ok (.invokevirtual 108, 3) := by decide +kernel
theorem dX3_month_36 : decode cX3_month 36 = .ok (.iinc 2 1, 3) := by decide +kernel
theorem dX3_month_39 : decode cX3_month 39 = .ok (.goto (-15), 3) := by decide +kernel
theorem dX3_month_42 : decode cX3_month 42 = .ok (.aload_n 0, 1) := by decide +kernel
theorem dX3_month_43 : decode cX3_month 43 = .ok (.getfield 10, 3) := by decide +kernel
theorem dX3_month_46 : decode cX3_month 46 = .ok (.invokevirtual 111, 3) := by decide +kernel
theorem dX3_month_49 : decode cX3_month 49 = .ok (.ireturn, 1) := by decide +kernel
set_option maxRecDepth 20000 in
theorem ggX3_feed_X3_isFloe : GoodIn wsX3_feed wsX3_isFloe := goodIn_r _ [11, 1, 12, 13, 14, 10, 15, 35, 36, 37, 38, 39, 40, 41, 42, 43, 44, 45, 46, 47, 48, 49, 50, 51, 52, 53, 54, 55, 56, 57, 58, 59] (by decide +kernel) (by decide +kernel)
set_option maxRecDepth 20000 in
theorem gX3_feed_X3_isFloe : GoodIn wsX3_feed (wsV RX3 114 RX3 yX3_isFloe wsX3_isFloe) := goodIn_app (goodIn_of _ (by decide +kernel)) ggX3_feed_X3_isFloe
set_option maxRecDepth 20000 in
theorem ggX3_feed_X3_within : GoodIn wsX3_feed wsX3_within := goodIn_r _ [15] (by decide +kernel) (by decide +kernel)
set_option maxRecDepth 20000 in
theorem gX3_feed_X3_within : GoodIn wsX3_feed (va_wsS RX3 45 yX3_within wsX3_within) := goodIn_app (goodIn_of _ (by decide +kernel)) ggX3_feed_X3_within
set_option maxRecDepth 20000 in
theorem ggX3_feed_X3_refuseBad : GoodIn wsX3_feed wsX3_refuseBad := goodIn_r _ [19, 20, 35, 36, 37, 38, 39, 40, 41, 42, 43, 44, 45, 46] (by decide +kernel) (by decide +kernel)
set_option maxRecDepth 20000 in
theorem gX3_feed_X3_refuseBad : GoodIn wsX3_feed (wsV RX3 49 RX3 yX3_refuseBad wsX3_refuseBad) := goodIn_app (goodIn_of _ (by decide +kernel)) ggX3_feed_X3_refuseBad
set_option maxRecDepth 20000 in
theorem ggX3_feed_X1_keepToUndo : GoodIn wsX3_feed wsX1_keepToUndo := goodIn_r _ [25, 26, 27, 28, 29, 30, 31, 32, 33, 34, 47, 48, 49, 50, 51, 52, 53, 54, 55, 56, 57, 58, 59] (by decide +kernel) (by decide +kernel)
set_option maxRecDepth 20000 in
theorem gX3_feed_X1_keepToUndo : GoodIn wsX3_feed (wsV RX3 105 RX1 yX1_keepToUndo wsX1_keepToUndo) := goodIn_app (goodIn_of _ (by decide +kernel)) ggX3_feed_X1_keepToUndo
theorem dX3_feed_0 : decode cX3_feed 0 = .ok (.aload_n 0, 1) := by decide +kernel
theorem dX3_feed_1 : decode cX3_feed 1 = .ok (.iload_n 1, 1) := by decide +kernel
theorem dX3_feed_2 : decode cX3_feed 2 = .ok (.invokevirtual 114, 3) := by decide +kernel
theorem dX3_feed_5 : decode cX3_feed 5 = .ok (.ifCond .eq 13, 3) := by decide +kernel
theorem dX3_feed_8 : decode cX3_feed 8 = .ok (.iload_n 2, 1) := by decide +kernel
theorem dX3_feed_9 : decode cX3_feed 9 = .ok (.iconst 1, 1) := by decide +kernel
theorem dX3_feed_10 : decode cX3_feed 10 = .ok (.bipush 60, 2) := by decide +kernel
theorem dX3_feed_12 : decode cX3_feed 12 = .ok (.invokestatic 45, 3) := by decide +kernel
theorem dX3_feed_15 : decode cX3_feed 15 = .ok (.ifCond .ne 8, 3) := by decide +kernel
theorem dX3_feed_18 : decode cX3_feed 18 = .ok (.aload_n 0, 1) := by decide +kernel
theorem dX3_feed_19 : decode cX3_feed 19 = .ok (.invokevirtual 49, 3) := by decide +kernel
theorem dX3_feed_22 : decode cX3_feed 22 = .ok (.ireturn, 1) := by decide +kernel
theorem dX3_feed_23 : decode cX3_feed 23 = .ok (.aload_n 0, 1) := by decide +kernel
theorem dX3_feed_24 : decode cX3_feed 24 = .ok (.getfield 10, 3) := by decide +kernel
theorem dX3_feed_27 : decode cX3_feed 27 = .ok (.invokevirtual 105, 3) := by decide +kernel
theorem dX3_feed_30 : decode cX3_feed 30 = .ok (.aload_n 0, 1) := by decide +kernel
theorem dX3_feed_31 : decode cX3_feed 31 = .ok (.getfield 10, 3) := by decide +kernel
theorem dX3_feed_34 : decode cX3_feed 34 = .ok (.getfield 117, 3) := by decide +kernel
theorem dX3_feed_37 : decode cX3_feed 37 = .ok (.iload_n 1, 1) := by decide +kernel
theorem dX3_feed_38 : decode cX3_feed 38 = .ok (.bipush 99, 2) := by decide +kernel
theorem dX3_feed_40 : decode cX3_feed 40 = .ok (.aload_n 0, 1) := by decide +kernel
theorem dX3_feed_41 : decode cX3_feed 41 = .ok (.getfield 10, 3) := by decide +kernel
theorem dX3_feed_44 : decode cX3_feed 44 = .ok (.getfield 117, 3) := by decide +kernel
theorem dX3_feed_47 : decode cX3_feed 47 = .ok (.iload_n 1, 1) := by decide +kernel
theorem dX3_feed_48 : decode cX3_feed 48 = .ok (.iaload, 1) := by decide +kernel
theorem dX3_feed_49 : decode cX3_feed 49 = .ok (.iload_n 2, 1) := by decide +kernel
theorem dX3_feed_50 : decode cX3_feed 50 = .ok (.iadd, 1) := by decide +kernel
theorem dX3_feed_51 : decode cX3_feed 51 = .ok (.invokestatic 120, 3) := by decide +kernel
theorem dX3_feed_54 : decode cX3_feed 54 = .ok (.iastore, 1) := by decide +kernel
theorem dX3_feed_55 : decode cX3_feed 55 = .ok (.aload_n 0, 1) := by decide +kernel
theorem dX3_feed_56 : decode cX3_feed 56 = .ok (.getfield 10, 3) := by decide +kernel
theorem dX3_feed_59 : decode cX3_feed 59 = .ok (.getfield 117, 3) := by decide +kernel
theorem dX3_feed_62 : decode cX3_feed 62 = .ok (.iload_n 1, 1) := by decide +kernel
theorem dX3_feed_63 : decode cX3_feed 63 = .ok (.iaload, 1) := by decide +kernel
theorem dX3_feed_64 : decode cX3_feed 64 = .ok (.ireturn, 1) := by decide +kernel
set_option maxRecDepth 20000 in
theorem ggX3_moves_X3_isFloe : GoodIn wsX3_moves wsX3_isFloe := goodIn_r _ [7, 1, 8, 9, 10, 6, 11, 34, 35, 36, 37, 38, 39, 40, 41, 42, 43, 44, 45, 46, 47, 48, 49, 50, 51, 52, 53, 54, 55, 56, 57, 58] (by decide +kernel) (by decide +kernel)
set_option maxRecDepth 20000 in
theorem gX3_moves_X3_isFloe : GoodIn wsX3_moves (wsV RX3 114 RX3 yX3_isFloe wsX3_isFloe) := goodIn_app (goodIn_of _ (by decide +kernel)) ggX3_moves_X3_isFloe
set_option maxRecDepth 20000 in
theorem ggX3_moves_X3_isCell : GoodIn wsX3_moves wsX3_isCell := goodIn_r _ [14, 9, 10, 6, 11] (by decide +kernel) (by decide +kernel)
set_option maxRecDepth 20000 in
theorem gX3_moves_X3_isCell : GoodIn wsX3_moves (va_wsS RX3 79 yX3_isCell wsX3_isCell) := goodIn_app (goodIn_of _ (by decide +kernel)) ggX3_moves_X3_isCell
set_option maxRecDepth 20000 in
theorem ggX3_moves_X3_refuseBad : GoodIn wsX3_moves wsX3_refuseBad := goodIn_r _ [18, 19, 34, 35, 36, 37, 38, 39, 40, 41, 42, 43, 44, 45] (by decide +kernel) (by decide +kernel)
set_option maxRecDepth 20000 in
theorem gX3_moves_X3_refuseBad : GoodIn wsX3_moves (wsV RX3 49 RX3 yX3_refuseBad wsX3_refuseBad) := goodIn_app (goodIn_of _ (by decide +kernel)) ggX3_moves_X3_refuseBad
set_option maxRecDepth 20000 in
theorem ggX3_moves_X1_keepToUndo : GoodIn wsX3_moves wsX1_keepToUndo := goodIn_r _ [24, 25, 26, 27, 28, 29, 30, 31, 32, 33, 46, 47, 48, 49, 50, 51, 52, 53, 54, 55, 56, 57, 58] (by decide +kernel) (by decide +kernel)
set_option maxRecDepth 20000 in
theorem gX3_moves_X1_keepToUndo : GoodIn wsX3_moves (wsV RX3 105 RX1 yX1_keepToUndo wsX1_keepToUndo) := goodIn_app (goodIn_of _ (by decide +kernel)) ggX3_moves_X1_keepToUndo
theorem dX3_moves_0 : decode cX3_moves 0 = .ok (.aload_n 0, 1) := by decide +kernel
theorem dX3_moves_1 : decode cX3_moves 1 = .ok (.iload_n 1, 1) := by decide +kernel
theorem dX3_moves_2 : decode cX3_moves 2 = .ok (.invokevirtual 114, 3) := by decide +kernel
theorem dX3_moves_5 : decode cX3_moves 5 = .ok (.ifCond .eq 10, 3) := by decide +kernel
theorem dX3_moves_8 : decode cX3_moves 8 = .ok (.iload_n 2, 1) := by decide +kernel
theorem dX3_moves_9 : decode cX3_moves 9 = .ok (.invokestatic 79, 3) := by decide +kernel
theorem dX3_moves_12 : decode cX3_moves 12 = .ok (.ifCond .ne 8, 3) := by decide +kernel
theorem dX3_moves_15 : decode cX3_moves 15 = .ok (.aload_n 0, 1) := by decide +kernel
theorem dX3_moves_16 : decode cX3_moves 16 = .ok (.invokevirtual 49, 3) := by decide +kernel
theorem dX3_moves_19 : decode cX3_moves 19 = .ok (.ireturn, 1) := by decide +kernel
theorem dX3_moves_20 : decode cX3_moves 20 = .ok (.aload_n 0, 1) := by decide +kernel
theorem dX3_moves_21 : decode cX3_moves 21 = .ok (.getfield 10, 3) := by decide +kernel
theorem dX3_moves_24 : decode cX3_moves 24 = .ok (.invokevirtual 105, 3) := by decide +kernel
theorem dX3_moves_27 : decode cX3_moves 27 = .ok (.aload_n 0, 1) := by decide +kernel
theorem dX3_moves_28 : decode cX3_moves 28 = .ok (.getfield 10, 3) := by decide +kernel
theorem dX3_moves_31 : decode cX3_moves 31 = .ok (.getfield 126, 3) := by decide +kernel
theorem dX3_moves_34 : decode cX3_moves 34 = .ok (.iload_n 1, 1) := by decide +kernel
theorem dX3_moves_35 : decode cX3_moves 35 = .ok (.iaload, 1) := by decide +kernel
theorem dX3_moves_36 : decode cX3_moves 36 = .ok (.istore_n 3, 1) := by decide +kernel
theorem dX3_moves_37 : decode cX3_moves 37 = .ok (.aload_n 0, 1) := by decide +kernel
theorem dX3_moves_38 : decode cX3_moves 38 = .ok (.getfield 10, 3) := by decide +kernel
theorem dX3_moves_41 : decode cX3_moves 41 = .ok (.getfield 126, 3) := by decide +kernel
theorem dX3_moves_44 : decode cX3_moves 44 = .ok (.iload_n 1, 1) := by decide +kernel
theorem dX3_moves_45 : decode cX3_moves 45 = .ok (.iload_n 2, 1) := by decide +kernel
theorem dX3_moves_46 : decode cX3_moves 46 = .ok (.iastore, 1) := by decide +kernel
theorem dX3_moves_47 : decode cX3_moves 47 = .ok (.iload_n 3, 1) := by decide +kernel
theorem dX3_moves_48 : decode cX3_moves 48 = .ok (.ireturn, 1) := by decide +kernel
set_option maxRecDepth 20000 in
theorem ggX3_undo_X3_refuseNo : GoodIn wsX3_undo wsX3_refuseNo := goodIn_r _ [8, 9, 24, 25, 26, 27, 28, 29, 30, 31, 32, 33, 34, 35] (by decide +kernel) (by decide +kernel)
set_option maxRecDepth 20000 in
theorem gX3_undo_X3_refuseNo : GoodIn wsX3_undo (wsV RX3 132 RX3 yX3_refuseNo wsX3_refuseNo) := goodIn_app (goodIn_of _ (by decide +kernel)) ggX3_undo_X3_refuseNo
set_option maxRecDepth 20000 in
theorem ggX3_undo_X1_takeBack : GoodIn wsX3_undo wsX1_takeBack := goodIn_r _ [14, 15, 16, 17, 18, 19, 20, 21, 22, 23, 36, 37, 38, 39, 40, 41, 42, 43, 44, 45, 46, 47, 48] (by decide +kernel) (by decide +kernel)
set_option maxRecDepth 20000 in
theorem gX3_undo_X1_takeBack : GoodIn wsX3_undo (wsV RX3 135 RX1 yX1_takeBack wsX1_takeBack) := goodIn_app (goodIn_of _ (by decide +kernel)) ggX3_undo_X1_takeBack
theorem dX3_undo_0 : decode cX3_undo 0 = .ok (.aload_n 0, 1) := by decide +kernel
theorem dX3_undo_1 : decode cX3_undo 1 = .ok (.getfield 10, 3) := by decide +kernel
theorem dX3_undo_4 : decode cX3_undo 4 = .ok (.getfield 129, 3) := by decide +kernel
theorem dX3_undo_7 : decode cX3_undo 7 = .ok (.ifCond .ne 8, 3) := by decide +kernel
theorem dX3_undo_10 : decode cX3_undo 10 = .ok (.aload_n 0, 1) := by decide +kernel
theorem dX3_undo_11 : decode cX3_undo 11 = .ok (.invokevirtual 132, 3) := by decide +kernel
theorem dX3_undo_14 : decode cX3_undo 14 = .ok (.ireturn, 1) := by decide +kernel
theorem dX3_undo_15 : decode cX3_undo 15 = .ok (.aload_n 0, 1) := by decide +kernel
theorem dX3_undo_16 : decode cX3_undo 16 = .ok (.getfield 10, 3) := by decide +kernel
theorem dX3_undo_19 : decode cX3_undo 19 = .ok (.invokevirtual 135, 3) := by decide +kernel
theorem dX3_undo_22 : decode cX3_undo 22 = .ok (.aload_n 0, 1) := by decide +kernel
theorem dX3_undo_23 : decode cX3_undo 23 = .ok (.getfield 10, 3) := by decide +kernel
theorem dX3_undo_26 : decode cX3_undo 26 = .ok (.getfield 138, 3) := by decide +kernel
theorem dX3_undo_29 : decode cX3_undo 29 = .ok (.ireturn, 1) := by decide +kernel
set_option maxRecDepth 20000 in
theorem ggX3_of_X3_isFloe : GoodIn wsX3_of wsX3_isFloe := goodIn_r _ [9, 1, 10, 11, 12, 8, 13, 22, 23, 24, 25, 26, 27, 28, 29, 30, 31, 32, 33, 34, 35, 36, 37, 38, 39, 40, 41, 42, 43, 44, 45, 46] (by decide +kernel) (by decide +kernel)
set_option maxRecDepth 20000 in
theorem gX3_of_X3_isFloe : GoodIn wsX3_of (wsV RX3 114 RX3 yX3_isFloe wsX3_isFloe) := goodIn_app (goodIn_of _ (by decide +kernel)) ggX3_of_X3_isFloe
set_option maxRecDepth 20000 in
theorem ggX3_of_X3_refuseBad : GoodIn wsX3_of wsX3_refuseBad := goodIn_r _ [17, 18, 22, 23, 24, 25, 26, 27, 28, 29, 30, 31, 32, 33] (by decide +kernel) (by decide +kernel)
set_option maxRecDepth 20000 in
theorem gX3_of_X3_refuseBad : GoodIn wsX3_of (wsV RX3 49 RX3 yX3_refuseBad wsX3_refuseBad) := goodIn_app (goodIn_of _ (by decide +kernel)) ggX3_of_X3_refuseBad
set_option maxRecDepth 20000 in
theorem ggX3_of_X3_isOut : GoodIn wsX3_of wsX3_isOut := goodIn_r _ [21] (by decide +kernel) (by decide +kernel)
set_option maxRecDepth 20000 in
theorem gX3_of_X3_isOut : GoodIn wsX3_of (va_wsS RX3 144 yX3_isOut wsX3_isOut) := goodIn_app (goodIn_of _ (by decide +kernel)) ggX3_of_X3_isOut
theorem dX3_of_0 : decode cX3_of 0 = .ok (.aload_n 0, 1) := by decide +kernel
theorem dX3_of_1 : decode cX3_of 1 = .ok (.iload_n 1, 1) := by decide +kernel
theorem dX3_of_2 : decode cX3_of 2 = .ok (.invokevirtual 114, 3) := by decide +kernel
theorem dX3_of_5 : decode cX3_of 5 = .ok (.ifCond .ne 8, 3) := by decide +kernel
theorem dX3_of_8 : decode cX3_of 8 = .ok (.aload_n 0, 1) := by decide +kernel
theorem dX3_of_9 : decode cX3_of 9 = .ok (.invokevirtual 49, 3) := by decide +kernel
theorem dX3_of_12 : decode cX3_of 12 = .ok (.ireturn, 1) := by decide +kernel
theorem dX3_of_13 : decode cX3_of 13 = .ok (.iload_n 2, 1) := by decide +kernel
theorem dX3_of_14 : decode cX3_of 14 = .ok (.tableswitch 81 0 3 #[30, 40, 50, 60], 30) := by decide +kernel
theorem dX3_of_44 : decode cX3_of 44 = .ok (.aload_n 0, 1) := by decide +kernel
theorem dX3_of_45 : decode cX3_of 45 = .ok (.getfield 10, 3) := by decide +kernel
theorem dX3_of_48 : decode cX3_of 48 = .ok (.getfield 141, 3) := by decide +kernel
theorem dX3_of_51 : decode cX3_of 51 = .ok (.iload_n 1, 1) := by decide +kernel
theorem dX3_of_52 : decode cX3_of 52 = .ok (.iaload, 1) := by decide +kernel
theorem dX3_of_53 : decode cX3_of 53 = .ok (.ireturn, 1) := by decide +kernel
theorem dX3_of_54 : decode cX3_of 54 = .ok (.aload_n 0, 1) := by decide +kernel
theorem dX3_of_55 : decode cX3_of 55 = .ok (.getfield 10, 3) := by decide +kernel
theorem dX3_of_58 : decode cX3_of 58 = .ok (.getfield 126, 3) := by decide +kernel
theorem dX3_of_61 : decode cX3_of 61 = .ok (.iload_n 1, 1) := by decide +kernel
theorem dX3_of_62 : decode cX3_of 62 = .ok (.iaload, 1) := by decide +kernel
theorem dX3_of_63 : decode cX3_of 63 = .ok (.ireturn, 1) := by decide +kernel
theorem dX3_of_64 : decode cX3_of 64 = .ok (.aload_n 0, 1) := by decide +kernel
theorem dX3_of_65 : decode cX3_of 65 = .ok (.getfield 10, 3) := by decide +kernel
theorem dX3_of_68 : decode cX3_of 68 = .ok (.getfield 117, 3) := by decide +kernel
theorem dX3_of_71 : decode cX3_of 71 = .ok (.iload_n 1, 1) := by decide +kernel
theorem dX3_of_72 : decode cX3_of 72 = .ok (.iaload, 1) := by decide +kernel
theorem dX3_of_73 : decode cX3_of 73 = .ok (.ireturn, 1) := by decide +kernel
theorem dX3_of_74 : decode cX3_of 74 = .ok (.aload_n 0, 1) := by decide +kernel
theorem dX3_of_75 : decode cX3_of 75 = .ok (.getfield 10, 3) := by decide +kernel
theorem dX3_of_78 : decode cX3_of 78 = .ok (.getfield 126, 3) := by decide +kernel
theorem dX3_of_81 : decode cX3_of 81 = .ok (.iload_n 1, 1) := by decide +kernel
theorem dX3_of_82 : decode cX3_of 82 = .ok (.iaload, 1) := by decide +kernel
theorem dX3_of_83 : decode cX3_of 83 = .ok (.invokestatic 144, 3) := by decide +kernel
theorem dX3_of_86 : decode cX3_of 86 = .ok (.ifCond .eq 7, 3) := by decide +kernel
theorem dX3_of_89 : decode cX3_of 89 = .ok (.iconst 1, 1) := by decide +kernel
theorem dX3_of_90 : decode cX3_of 90 = .ok (.goto 4, 3) := by decide +kernel
theorem dX3_of_93 : decode cX3_of 93 = .ok (.iconst 0, 1) := by decide +kernel
theorem dX3_of_94 : decode cX3_of 94 = .ok (.ireturn, 1) := by decide +kernel
theorem dX3_of_95 : decode cX3_of 95 = .ok (.aload_n 0, 1) := by decide +kernel
theorem dX3_of_96 : decode cX3_of 96 = .ok (.invokevirtual 49, 3) := by decide +kernel
theorem dX3_of_99 : decode cX3_of 99 = .ok (.ireturn, 1) := by decide +kernel
set_option maxRecDepth 20000 in
theorem ggX3_then_X3_isFloe : GoodIn wsX3_then wsX3_isFloe := goodIn_r _ [6, 1, 7, 8, 9, 5, 10, 51, 52, 53, 54, 55, 56, 57, 58, 59, 60, 61, 62, 63, 64, 65, 66, 67, 68, 69, 70, 71, 72, 73, 74, 75] (by decide +kernel) (by decide +kernel)
set_option maxRecDepth 20000 in
theorem gX3_then_X3_isFloe : GoodIn wsX3_then (wsV RX3 114 RX3 yX3_isFloe wsX3_isFloe) := goodIn_app (goodIn_of _ (by decide +kernel)) ggX3_then_X3_isFloe
set_option maxRecDepth 20000 in
theorem ggX3_then_X3_within : GoodIn wsX3_then wsX3_within := goodIn_r _ [10] (by decide +kernel) (by decide +kernel)
set_option maxRecDepth 20000 in
theorem gX3_then_X3_within : GoodIn wsX3_then (va_wsS RX3 45 yX3_within wsX3_within) := goodIn_app (goodIn_of _ (by decide +kernel)) ggX3_then_X3_within
set_option maxRecDepth 20000 in
theorem ggX3_then_X3_refuseBad : GoodIn wsX3_then wsX3_refuseBad := goodIn_r _ [14, 15, 51, 52, 53, 54, 55, 56, 57, 58, 59, 60, 61, 62] (by decide +kernel) (by decide +kernel)
set_option maxRecDepth 20000 in
theorem gX3_then_X3_refuseBad : GoodIn wsX3_then (wsV RX3 49 RX3 yX3_refuseBad wsX3_refuseBad) := goodIn_app (goodIn_of _ (by decide +kernel)) ggX3_then_X3_refuseBad
set_option maxRecDepth 20000 in
theorem ggX3_then_X1_cellBehind : GoodIn wsX3_then wsX1_cellBehind := goodIn_r _ [20, 21, 22, 23, 24, 25, 26, 19, 27, 28, 29, 30, 31, 32, 33, 34, 35, 36, 37, 38, 39, 40, 41, 42, 43, 44, 45, 46, 47, 48, 49, 50, 63, 64, 65, 66, 67, 68, 69, 70, 71, 72, 73, 74, 75] (by decide +kernel) (by decide +kernel)
set_option maxRecDepth 20000 in
theorem gX3_then_X1_cellBehind : GoodIn wsX3_then (wsV RX3 147 RX1 yX1_cellBehind wsX1_cellBehind) := goodIn_app (goodIn_of _ (by decide +kernel)) ggX3_then_X1_cellBehind
theorem dX3_then_0 : decode cX3_then 0 = .ok (.aload_n 0, 1) := by decide +kernel
theorem dX3_then_1 : decode cX3_then 1 = .ok (.iload_n 1, 1) := by decide +kernel
theorem dX3_then_2 : decode cX3_then 2 = .ok (.invokevirtual 114, 3) := by decide +kernel
theorem dX3_then_5 : decode cX3_then 5 = .ok (.ifCond .eq 13, 3) := by decide +kernel
theorem dX3_then_8 : decode cX3_then 8 = .ok (.iload_n 2, 1) := by decide +kernel
theorem dX3_then_9 : decode cX3_then 9 = .ok (.iconst 0, 1) := by decide +kernel
theorem dX3_then_10 : decode cX3_then 10 = .ok (.bipush 60, 2) := by decide +kernel
theorem dX3_then_12 : decode cX3_then 12 = .ok (.invokestatic 45, 3) := by decide +kernel
theorem dX3_then_15 : decode cX3_then 15 = .ok (.ifCond .ne 8, 3) := by decide +kernel
theorem dX3_then_18 : decode cX3_then 18 = .ok (.aload_n 0, 1) := by decide +kernel
theorem dX3_then_19 : decode cX3_then 19 = .ok (.invokevirtual 49, 3) := by decide +kernel
theorem dX3_then_22 : decode cX3_then 22 = .ok (.ireturn, 1) := by decide +kernel
theorem dX3_then_23 : decode cX3_then 23 = .ok (.aload_n 0, 1) := by decide +kernel
theorem dX3_then_24 : decode cX3_then 24 = .ok (.getfield 10, 3) := by decide +kernel
theorem dX3_then_27 : decode cX3_then 27 = .ok (.iload_n 1, 1) := by decide +kernel
theorem dX3_then_28 : decode cX3_then 28 = .ok (.iload_n 2, 1) := by decide +kernel
theorem dX3_then_29 : decode cX3_then 29 = .ok (.invokevirtual 147, 3) := by decide +kernel
theorem dX3_then_32 : decode cX3_then 32 = .ok (.ireturn, 1) := by decide +kernel
set_option maxRecDepth 20000 in
theorem ggX3_out_X3_isFloe : GoodIn wsX3_out wsX3_isFloe := goodIn_r _ [8, 1, 9, 10, 11, 7, 12, 49, 50, 51, 52, 53, 54, 55, 56, 57, 58, 59, 60, 61, 62, 63, 64, 65, 66, 67, 68, 69, 70, 71, 72, 73] (by decide +kernel) (by decide +kernel)
set_option maxRecDepth 20000 in
theorem gX3_out_X3_isFloe : GoodIn wsX3_out (wsV RX3 114 RX3 yX3_isFloe wsX3_isFloe) := goodIn_app (goodIn_of _ (by decide +kernel)) ggX3_out_X3_isFloe
set_option maxRecDepth 20000 in
theorem ggX3_out_X1_firstOut : GoodIn wsX3_out wsX1_firstOut := goodIn_r _ [17, 18, 19, 7, 20, 21, 22, 23, 16, 24, 25, 26, 27, 28, 29, 30, 31, 32, 33, 34, 35, 36, 37, 38, 39, 40, 41, 42, 43, 61, 62, 63, 64, 65, 66, 67, 68, 69, 70, 71, 72, 73] (by decide +kernel) (by decide +kernel)
set_option maxRecDepth 20000 in
theorem gX3_out_X1_firstOut : GoodIn wsX3_out (wsV RX3 150 RX1 yX1_firstOut wsX1_firstOut) := goodIn_app (goodIn_of _ (by decide +kernel)) ggX3_out_X1_firstOut
set_option maxRecDepth 20000 in
theorem ggX3_out_X3_refuseBad : GoodIn wsX3_out wsX3_refuseBad := goodIn_r _ [47, 48, 49, 50, 51, 52, 53, 54, 55, 56, 57, 58, 59, 60] (by decide +kernel) (by decide +kernel)
set_option maxRecDepth 20000 in
theorem gX3_out_X3_refuseBad : GoodIn wsX3_out (wsV RX3 49 RX3 yX3_refuseBad wsX3_refuseBad) := goodIn_app (goodIn_of _ (by decide +kernel)) ggX3_out_X3_refuseBad
theorem dX3_out_0 : decode cX3_out 0 = .ok (.aload_n 0, 1) := by decide +kernel
theorem dX3_out_1 : decode cX3_out 1 = .ok (.iload_n 1, 1) := by decide +kernel
theorem dX3_out_2 : decode cX3_out 2 = .ok (.invokevirtual 114, 3) := by decide +kernel
theorem dX3_out_5 : decode cX3_out 5 = .ok (.ifCond .eq 31, 3) := by decide +kernel
theorem dX3_out_8 : decode cX3_out 8 = .ok (.aload_n 0, 1) := by decide +kernel
theorem dX3_out_9 : decode cX3_out 9 = .ok (.getfield 10, 3) := by decide +kernel
theorem dX3_out_12 : decode cX3_out 12 = .ok (.aload_n 0, 1) := by decide +kernel
theorem dX3_out_13 : decode cX3_out 13 = .ok (.getfield 10, 3) := by decide +kernel
theorem dX3_out_16 : decode cX3_out 16 = .ok (.getfield 141, 3) := by decide +kernel
theorem dX3_out_19 : decode cX3_out 19 = .ok (.iload_n 1, 1) := by decide +kernel
theorem dX3_out_20 : decode cX3_out 20 = .ok (.iaload, 1) := by decide +kernel
theorem dX3_out_21 : decode cX3_out 21 = .ok (.aload_n 0, 1) := by decide +kernel
theorem dX3_out_22 : decode cX3_out 22 = .ok (.getfield 10, 3) := by decide +kernel
theorem dX3_out_25 : decode cX3_out 25 = .ok (.getfield 126, 3) := by decide +kernel
theorem dX3_out_28 : decode cX3_out 28 = .ok (.iload_n 1, 1) := by decide +kernel
theorem dX3_out_29 : decode cX3_out 29 = .ok (.iaload, 1) := by decide +kernel
theorem dX3_out_30 : decode cX3_out 30 = .ok (.invokevirtual 150, 3) := by decide +kernel
theorem dX3_out_33 : decode cX3_out 33 = .ok (.goto 7, 3) := by decide +kernel
theorem dX3_out_36 : decode cX3_out 36 = .ok (.aload_n 0, 1) := by decide +kernel
theorem dX3_out_37 : decode cX3_out 37 = .ok (.invokevirtual 49, 3) := by decide +kernel
theorem dX3_out_40 : decode cX3_out 40 = .ok (.ireturn, 1) := by decide +kernel
set_option maxRecDepth 20000 in
theorem ggX3_need_X3_isFloe : GoodIn wsX3_need wsX3_isFloe := goodIn_r _ [13, 1, 14, 15, 16, 12, 17, 51, 52, 53, 54, 55, 56, 57, 58, 59, 60, 61, 62, 63, 64, 65, 66, 67, 68, 69, 70, 71, 72, 73, 74, 75] (by decide +kernel) (by decide +kernel)
set_option maxRecDepth 20000 in
theorem gX3_need_X3_isFloe : GoodIn wsX3_need (wsV RX3 114 RX3 yX3_isFloe wsX3_isFloe) := goodIn_app (goodIn_of _ (by decide +kernel)) ggX3_need_X3_isFloe
set_option maxRecDepth 20000 in
theorem ggX3_need_X3_refuseBad : GoodIn wsX3_need wsX3_refuseBad := goodIn_r _ [21, 22, 51, 52, 53, 54, 55, 56, 57, 58, 59, 60, 61, 62] (by decide +kernel) (by decide +kernel)
set_option maxRecDepth 20000 in
theorem gX3_need_X3_refuseBad : GoodIn wsX3_need (wsV RX3 49 RX3 yX3_refuseBad wsX3_refuseBad) := goodIn_app (goodIn_of _ (by decide +kernel)) ggX3_need_X3_refuseBad
set_option maxRecDepth 20000 in
theorem ggX3_need_X1_firstOut : GoodIn wsX3_need wsX1_firstOut := goodIn_r _ [27, 28, 29, 12, 30, 31, 32, 33, 26, 34, 35, 36, 37, 38, 39, 40, 41, 42, 7, 43, 44, 6, 8, 45, 46, 47, 48, 49, 50, 63, 64, 65, 66, 67, 68, 69, 70, 71, 72, 73, 74, 75] (by decide +kernel) (by decide +kernel)
set_option maxRecDepth 20000 in
theorem gX3_need_X1_firstOut : GoodIn wsX3_need (wsV RX3 150 RX1 yX1_firstOut wsX1_firstOut) := goodIn_app (goodIn_of _ (by decide +kernel)) ggX3_need_X1_firstOut
theorem dX3_need_0 : decode cX3_need 0 = .ok (.aload_n 0, 1) := by decide +kernel
theorem dX3_need_1 : decode cX3_need 1 = .ok (.iload_n 1, 1) := by decide +kernel
theorem dX3_need_2 : decode cX3_need 2 = .ok (.invokevirtual 114, 3) := by decide +kernel
theorem dX3_need_5 : decode cX3_need 5 = .ok (.ifCond .ne 8, 3) := by decide +kernel
theorem dX3_need_8 : decode cX3_need 8 = .ok (.aload_n 0, 1) := by decide +kernel
theorem dX3_need_9 : decode cX3_need 9 = .ok (.invokevirtual 49, 3) := by decide +kernel
theorem dX3_need_12 : decode cX3_need 12 = .ok (.ireturn, 1) := by decide +kernel
theorem dX3_need_13 : decode cX3_need 13 = .ok (.aload_n 0, 1) := by decide +kernel
theorem dX3_need_14 : decode cX3_need 14 = .ok (.getfield 10, 3) := by decide +kernel
theorem dX3_need_17 : decode cX3_need 17 = .ok (.aload_n 0, 1) := by decide +kernel
theorem dX3_need_18 : decode cX3_need 18 = .ok (.getfield 10, 3) := by decide +kernel
theorem dX3_need_21 : decode cX3_need 21 = .ok (.getfield 141, 3) := by decide +kernel
theorem dX3_need_24 : decode cX3_need 24 = .ok (.iload_n 1, 1) := by decide +kernel
theorem dX3_need_25 : decode cX3_need 25 = .ok (.iaload, 1) := by decide +kernel
theorem dX3_need_26 : decode cX3_need 26 = .ok (.aload_n 0, 1) := by decide +kernel
theorem dX3_need_27 : decode cX3_need 27 = .ok (.getfield 10, 3) := by decide +kernel
theorem dX3_need_30 : decode cX3_need 30 = .ok (.getfield 126, 3) := by decide +kernel
theorem dX3_need_33 : decode cX3_need 33 = .ok (.iload_n 1, 1) := by decide +kernel
theorem dX3_need_34 : decode cX3_need 34 = .ok (.iaload, 1) := by decide +kernel
theorem dX3_need_35 : decode cX3_need 35 = .ok (.invokevirtual 150, 3) := by decide +kernel
theorem dX3_need_38 : decode cX3_need 38 = .ok (.istore_n 2, 1) := by decide +kernel
theorem dX3_need_39 : decode cX3_need 39 = .ok (.iload_n 2, 1) := by decide +kernel
theorem dX3_need_40 : decode cX3_need 40 = .ok (.iconst (-1), 1) := by decide +kernel
theorem dX3_need_41 : decode cX3_need 41 = .ok (.if_icmp .ne 7, 3) := by decide +kernel
theorem dX3_need_44 : decode cX3_need 44 = .ok (.iconst (-1), 1) := by decide +kernel
theorem dX3_need_45 : decode cX3_need 45 = .ok (.goto 18, 3) := by decide +kernel
theorem dX3_need_48 : decode cX3_need 48 = .ok (.iconst 0, 1) := by decide +kernel
theorem dX3_need_49 : decode cX3_need 49 = .ok (.iload_n 2, 1) := by decide +kernel
theorem dX3_need_50 : decode cX3_need 50 = .ok (.aload_n 0, 1) := by decide +kernel
theorem dX3_need_51 : decode cX3_need 51 = .ok (.getfield 10, 3) := by decide +kernel
theorem dX3_need_54 : decode cX3_need 54 = .ok (.getfield 117, 3) := by decide +kernel
theorem dX3_need_57 : decode cX3_need 57 = .ok (.iload_n 1, 1) := by decide +kernel
theorem dX3_need_58 : decode cX3_need 58 = .ok (.iaload, 1) := by decide +kernel
theorem dX3_need_59 : decode cX3_need 59 = .ok (.isub, 1) := by decide +kernel
theorem dX3_need_60 : decode cX3_need 60 = .ok (.invokestatic 153, 3) := by decide +kernel
theorem dX3_need_63 : decode cX3_need 63 = .ok (.ireturn, 1) := by decide +kernel
set_option maxRecDepth 20000 in
theorem ggX3_enter_X3_isKind : GoodIn wsX3_enter wsX3_isKind := goodIn_r _ [5, 6, 7, 4, 8] (by decide +kernel) (by decide +kernel)
set_option maxRecDepth 20000 in
theorem gX3_enter_X3_isKind : GoodIn wsX3_enter (va_wsS RX3 75 yX3_isKind wsX3_isKind) := goodIn_app (goodIn_of _ (by decide +kernel)) ggX3_enter_X3_isKind
set_option maxRecDepth 20000 in
theorem ggX3_enter_X3_within : GoodIn wsX3_enter wsX3_within := goodIn_r _ [8] (by decide +kernel) (by decide +kernel)
set_option maxRecDepth 20000 in
theorem gX3_enter_X3_within : GoodIn wsX3_enter (va_wsS RX3 45 yX3_within wsX3_within) := goodIn_app (goodIn_of _ (by decide +kernel)) ggX3_enter_X3_within
set_option maxRecDepth 20000 in
theorem ggX3_enter_X3_refuseBad : GoodIn wsX3_enter wsX3_refuseBad := goodIn_r _ [12, 13, 45, 46, 47, 48, 49, 50, 51, 52, 53, 54, 55, 56] (by decide +kernel) (by decide +kernel)
set_option maxRecDepth 20000 in
theorem gX3_enter_X3_refuseBad : GoodIn wsX3_enter (wsV RX3 49 RX3 yX3_refuseBad wsX3_refuseBad) := goodIn_app (goodIn_of _ (by decide +kernel)) ggX3_enter_X3_refuseBad
set_option maxRecDepth 20000 in
theorem ggX3_enter_X1_firstOut : GoodIn wsX3_enter wsX1_firstOut := goodIn_r _ [18, 19, 20, 4, 21, 22, 23, 24, 17, 25, 26, 27, 28, 29, 30, 31, 32, 33, 34, 35, 36, 37, 38, 39, 40, 41, 42, 43, 44, 57, 58, 59, 60, 61, 62, 63, 64, 65, 66, 67, 68, 69] (by decide +kernel) (by decide +kernel)
set_option maxRecDepth 20000 in
theorem gX3_enter_X1_firstOut : GoodIn wsX3_enter (wsV RX3 150 RX1 yX1_firstOut wsX1_firstOut) := goodIn_app (goodIn_of _ (by decide +kernel)) ggX3_enter_X1_firstOut
theorem dX3_enter_0 : decode cX3_enter 0 = .ok (.iload_n 1, 1) := by decide +kernel
theorem dX3_enter_1 : decode cX3_enter 1 = .ok (.invokestatic 75, 3) := by decide +kernel
theorem dX3_enter_4 : decode cX3_enter 4 = .ok (.ifCond .eq 13, 3) := by decide +kernel
theorem dX3_enter_7 : decode cX3_enter 7 = .ok (.iload_n 2, 1) := by decide +kernel
theorem dX3_enter_8 : decode cX3_enter 8 = .ok (.iconst 0, 1) := by decide +kernel
theorem dX3_enter_9 : decode cX3_enter 9 = .ok (.bipush 60, 2) := by decide +kernel
theorem dX3_enter_11 : decode cX3_enter 11 = .ok (.invokestatic 45, 3) := by decide +kernel
theorem dX3_enter_14 : decode cX3_enter 14 = .ok (.ifCond .ne 8, 3) := by decide +kernel
theorem dX3_enter_17 : decode cX3_enter 17 = .ok (.aload_n 0, 1) := by decide +kernel
theorem dX3_enter_18 : decode cX3_enter 18 = .ok (.invokevirtual 49, 3) := by decide +kernel
theorem dX3_enter_21 : decode cX3_enter 21 = .ok (.ireturn, 1) := by decide +kernel
theorem dX3_enter_22 : decode cX3_enter 22 = .ok (.iconst 0, 1) := by decide +kernel
theorem dX3_enter_23 : decode cX3_enter 23 = .ok (.istore_n 3, 1) := by decide +kernel
theorem dX3_enter_24 : decode cX3_enter 24 = .ok (.iconst 0, 1) := by decide +kernel
theorem dX3_enter_25 : decode cX3_enter 25 = .ok (.istore 4, 2) := by decide +kernel
theorem dX3_enter_27 : decode cX3_enter 27 = .ok (.iload 4, 2) := by decide +kernel
theorem dX3_enter_29 : decode cX3_enter 29 = .ok (.bipush 6, 2) := by decide +kernel
theorem dX3_enter_31 : decode cX3_enter 31 = .ok (.if_icmp .ge 43, 3) := by decide +kernel
theorem dX3_enter_34 : decode cX3_enter 34 = .ok (.aload_n 0, 1) := by decide +kernel
theorem dX3_enter_35 : decode cX3_enter 35 = .ok (.getfield 10, 3) := by decide +kernel
theorem dX3_enter_38 : decode cX3_enter 38 = .ok (.iload_n 1, 1) := by decide +kernel
theorem dX3_enter_39 : decode cX3_enter 39 = .ok (.bipush 6, 2) := by decide +kernel
theorem dX3_enter_41 : decode cX3_enter 41 = .ok (.iload 4, 2) := by decide +kernel
theorem dX3_enter_43 : decode cX3_enter 43 = .ok (.imul, 1) := by decide +kernel
theorem dX3_enter_44 : decode cX3_enter 44 = .ok (.invokevirtual 150, 3) := by decide +kernel
theorem dX3_enter_47 : decode cX3_enter 47 = .ok (.istore 5, 2) := by decide +kernel
theorem dX3_enter_49 : decode cX3_enter 49 = .ok (.iload 5, 2) := by decide +kernel
theorem dX3_enter_51 : decode cX3_enter 51 = .ok (.iconst (-1), 1) := by decide +kernel
theorem dX3_enter_52 : decode cX3_enter 52 = .ok (.if_icmp .eq 16, 3) := by decide +kernel
theorem dX3_enter_55 : decode cX3_enter 55 = .ok (.iload 5, 2) := by decide +kernel
theorem dX3_enter_57 : decode cX3_enter 57 = .ok (.iload_n 2, 1) := by decide +kernel
theorem dX3_enter_58 : decode cX3_enter 58 = .ok (.if_icmp .gt 10, 3) := by decide +kernel
theorem dX3_enter_61 : decode cX3_enter 61 = .ok (.iload_n 3, 1) := by decide +kernel
theorem dX3_enter_62 : decode cX3_enter 62 = .ok (.iconst 1, 1) := by decide +kernel
theorem dX3_enter_63 : decode cX3_enter 63 = .ok (.iload 4, 2) := by decide +kernel
theorem dX3_enter_65 : decode cX3_enter 65 = .ok (.ishl, 1) := by decide +kernel
theorem dX3_enter_66 : decode cX3_enter 66 = .ok (.ior, 1) := by decide +kernel
theorem dX3_enter_67 : decode cX3_enter 67 = .ok (.istore_n 3, 1) := by decide +kernel
theorem dX3_enter_68 : decode cX3_enter 68 = .ok (.iinc 4 1, 3) := by decide +kernel
theorem dX3_enter_71 : decode cX3_enter 71 = .ok (.goto (-44), 3) := by decide +kernel
theorem dX3_enter_74 : decode cX3_enter 74 = .ok (.iload_n 3, 1) := by decide +kernel
theorem dX3_enter_75 : decode cX3_enter 75 = .ok (.ireturn, 1) := by decide +kernel
set_option maxRecDepth 20000 in
theorem ggX3_nearest_X3_areUnlikeFloes : GoodIn wsX3_nearest wsX3_areUnlikeFloes := goodIn_r _ [9, 10, 11, 12, 8, 13, 1, 14, 15, 16, 17, 56, 57, 58, 59, 60, 61, 62, 63, 64, 65, 66, 67, 68, 69, 70, 71, 72, 73, 74, 75, 76, 77, 78, 79, 80] (by decide +kernel) (by decide +kernel)
set_option maxRecDepth 20000 in
theorem gX3_nearest_X3_areUnlikeFloes : GoodIn wsX3_nearest (wsV RX3 156 RX3 yX3_areUnlikeFloes wsX3_areUnlikeFloes) := goodIn_app (goodIn_of _ (by decide +kernel)) ggX3_nearest_X3_areUnlikeFloes
set_option maxRecDepth 20000 in
theorem ggX3_nearest_X3_isFirstOrSecond : GoodIn wsX3_nearest wsX3_isFirstOrSecond := goodIn_r _ [20, 15, 16, 8, 17] (by decide +kernel) (by decide +kernel)
set_option maxRecDepth 20000 in
theorem gX3_nearest_X3_isFirstOrSecond : GoodIn wsX3_nearest (va_wsS RX3 159 yX3_isFirstOrSecond wsX3_isFirstOrSecond) := goodIn_app (goodIn_of _ (by decide +kernel)) ggX3_nearest_X3_isFirstOrSecond
set_option maxRecDepth 20000 in
theorem ggX3_nearest_X3_refuseBad : GoodIn wsX3_nearest wsX3_refuseBad := goodIn_r _ [24, 25, 56, 57, 58, 59, 60, 61, 62, 63, 64, 65, 66, 67] (by decide +kernel) (by decide +kernel)
set_option maxRecDepth 20000 in
theorem gX3_nearest_X3_refuseBad : GoodIn wsX3_nearest (wsV RX3 49 RX3 yX3_refuseBad wsX3_refuseBad) := goodIn_app (goodIn_of _ (by decide +kernel)) ggX3_nearest_X3_refuseBad
set_option maxRecDepth 20000 in
theorem ggX3_nearest_X3_far : GoodIn wsX3_nearest wsX3_far := goodIn_r _ [28, 29, 30, 31, 32] (by decide +kernel) (by decide +kernel)
set_option maxRecDepth 20000 in
theorem gX3_nearest_X3_far : GoodIn wsX3_nearest (va_wsS RX3 162 yX3_far wsX3_far) := goodIn_app (goodIn_of _ (by decide +kernel)) ggX3_nearest_X3_far
set_option maxRecDepth 20000 in
theorem ggX3_nearest_X1_nextCell : GoodIn wsX3_nearest wsX1_nextCell := goodIn_r _ [37, 38, 39, 40, 41, 42, 43, 44, 45, 31, 46, 47, 48, 49, 50, 51, 52, 53, 54, 55, 68, 69, 70, 71, 72, 73, 74, 75, 76, 77, 78, 79, 80] (by decide +kernel) (by decide +kernel)
set_option maxRecDepth 20000 in
theorem gX3_nearest_X1_nextCell : GoodIn wsX3_nearest (wsV RX3 165 RX1 yX1_nextCell wsX1_nextCell) := goodIn_app (goodIn_of _ (by decide +kernel)) ggX3_nearest_X1_nextCell
theorem dX3_nearest_0 : decode cX3_nearest 0 = .ok (.aload_n 0, 1) := by decide +kernel
theorem dX3_nearest_1 : decode cX3_nearest 1 = .ok (.iload_n 1, 1) := by decide +kernel
theorem dX3_nearest_2 : decode cX3_nearest 2 = .ok (.iload_n 2, 1) := by decide +kernel
theorem dX3_nearest_3 : decode cX3_nearest 3 = .ok (.invokevirtual 156, 3) := by decide +kernel
theorem dX3_nearest_6 : decode cX3_nearest 6 = .ok (.ifCond .eq 10, 3) := by decide +kernel
theorem dX3_nearest_9 : decode cX3_nearest 9 = .ok (.iload_n 3, 1) := by decide +kernel
theorem dX3_nearest_10 : decode cX3_nearest 10 = .ok (.invokestatic 159, 3) := by decide +kernel
theorem dX3_nearest_13 : decode cX3_nearest 13 = .ok (.ifCond .ne 8, 3) := by decide +kernel
theorem dX3_nearest_16 : decode cX3_nearest 16 = .ok (.aload_n 0, 1) := by decide +kernel
theorem dX3_nearest_17 : decode cX3_nearest 17 = .ok (.invokevirtual 49, 3) := by decide +kernel
theorem dX3_nearest_20 : decode cX3_nearest 20 = .ok (.ireturn, 1) := by decide +kernel
theorem dX3_nearest_21 : decode cX3_nearest 21 = .ok (.aload_n 0, 1) := by decide +kernel
theorem dX3_nearest_22 : decode cX3_nearest 22 = .ok (.getfield 10, 3) := by decide +kernel
theorem dX3_nearest_25 : decode cX3_nearest 25 = .ok (.getfield 126, 3) := by decide +kernel
theorem dX3_nearest_28 : decode cX3_nearest 28 = .ok (.iload_n 1, 1) := by decide +kernel
theorem dX3_nearest_29 : decode cX3_nearest 29 = .ok (.iaload, 1) := by decide +kernel
theorem dX3_nearest_30 : decode cX3_nearest 30 = .ok (.istore 4, 2) := by decide +kernel
theorem dX3_nearest_32 : decode cX3_nearest 32 = .ok (.aload_n 0, 1) := by decide +kernel
theorem dX3_nearest_33 : decode cX3_nearest 33 = .ok (.getfield 10, 3) := by decide +kernel
theorem dX3_nearest_36 : decode cX3_nearest 36 = .ok (.getfield 126, 3) := by decide +kernel
theorem dX3_nearest_39 : decode cX3_nearest 39 = .ok (.iload_n 2, 1) := by decide +kernel
theorem dX3_nearest_40 : decode cX3_nearest 40 = .ok (.iaload, 1) := by decide +kernel
theorem dX3_nearest_41 : decode cX3_nearest 41 = .ok (.istore 5, 2) := by decide +kernel
theorem dX3_nearest_43 : decode cX3_nearest 43 = .ok (.iconst 0, 1) := by decide +kernel
theorem dX3_nearest_44 : decode cX3_nearest 44 = .ok (.istore 6, 2) := by decide +kernel
theorem dX3_nearest_46 : decode cX3_nearest 46 = .ok (.iload 4, 2) := by decide +kernel
theorem dX3_nearest_48 : decode cX3_nearest 48 = .ok (.iload 5, 2) := by decide +kernel
theorem dX3_nearest_50 : decode cX3_nearest 50 = .ok (.invokestatic 162, 3) := by decide +kernel
theorem dX3_nearest_53 : decode cX3_nearest 53 = .ok (.istore 7, 2) := by decide +kernel
theorem dX3_nearest_55 : decode cX3_nearest 55 = .ok (.iconst 1, 1) := by decide +kernel
theorem dX3_nearest_56 : decode cX3_nearest 56 = .ok (.istore 8, 2) := by decide +kernel
theorem dX3_nearest_58 : decode cX3_nearest 58 = .ok (.iload 8, 2) := by decide +kernel
theorem dX3_nearest_60 : decode cX3_nearest 60 = .ok (.bipush 60, 2) := by decide +kernel
theorem dX3_nearest_62 : decode cX3_nearest 62 = .ok (.if_icmp .gt 98, 3) := by decide +kernel
theorem dX3_nearest_65 : decode cX3_nearest 65 = .ok (.aload_n 0, 1) := by decide +kernel
theorem dX3_nearest_66 : decode cX3_nearest 66 = .ok (.getfield 10, 3) := by decide +kernel
theorem dX3_nearest_69 : decode cX3_nearest 69 = .ok (.aload_n 0, 1) := by decide +kernel
theorem dX3_nearest_70 : decode cX3_nearest 70 = .ok (.getfield 10, 3) := by decide +kernel
theorem dX3_nearest_73 : decode cX3_nearest 73 = .ok (.getfield 141, 3) := by decide +kernel
theorem dX3_nearest_76 : decode cX3_nearest 76 = .ok (.iload_n 1, 1) := by decide +kernel
theorem dX3_nearest_77 : decode cX3_nearest 77 = .ok (.iaload, 1) := by decide +kernel
theorem dX3_nearest_78 : decode cX3_nearest 78 = .ok (.iload 4, 2) := by decide +kernel
theorem dX3_nearest_80 : decode cX3_nearest 80 = .ok (.aload_n 0, 1) := by decide +kernel
theorem dX3_nearest_81 : decode cX3_nearest 81 = .ok (.getfield 10, 3) := by decide +kernel
theorem dX3_nearest_84 : decode cX3_nearest 84 = .ok (.getfield 138, 3) := by decide +kernel
theorem dX3_nearest_87 : decode cX3_nearest 87 = .ok (.iload 8, 2) := by decide +kernel
theorem dX3_nearest_89 : decode cX3_nearest 89 = .ok (.iadd, 1) := by decide +kernel
theorem dX3_nearest_90 : decode cX3_nearest 90 = .ok (.iconst 1, 1) := by decide +kernel
theorem dX3_nearest_91 : decode cX3_nearest 91 = .ok (.isub, 1) := by decide +kernel
theorem dX3_nearest_92 : decode cX3_nearest 92 = .ok (.invokevirtual 165, 3) := by decide +kernel
theorem dX3_nearest_95 : decode cX3_nearest 95 = .ok (.istore 4, 2) := by decide +kernel
theorem dX3_nearest_97 : decode cX3_nearest 97 = .ok (.aload_n 0, 1) := by decide +kernel
theorem dX3_nearest_98 : decode cX3_nearest 98 = .ok (.getfield 10, 3) := by decide +kernel
theorem dX3_nearest_101 : decode cX3_nearest 101 = .ok (.aload_n 0, 1) := by decide +kernel
theorem dX3_nearest_102 : decode cX3_nearest 102 = .ok (.getfield 10, 3) := by decide +kernel
theorem dX3_nearest_105 : decode cX3_nearest 105 = .ok (.getfield 141, 3) := by decide +kernel
theorem dX3_nearest_108 : decode cX3_nearest 108 = .ok (.iload_n 2, 1) := by decide +kernel
theorem dX3_nearest_109 : decode cX3_nearest 109 = .ok (.iaload, 1) := by decide +kernel
theorem dX3_nearest_110 : decode cX3_nearest 110 = .ok (.iload 5, 2) := by decide +kernel
theorem dX3_nearest_112 : decode cX3_nearest 112 = .ok (.aload_n 0, 1) := by decide +kernel
theorem dX3_nearest_113 : decode cX3_nearest 113 = .ok (.getfield 10, 3) := by decide +kernel
theorem dX3_nearest_116 : decode cX3_nearest 116 = .ok (.getfield 138, 3) := by decide +kernel
theorem dX3_nearest_119 : decode cX3_nearest 119 = .ok (.iload 8, 2) := by decide +kernel
theorem dX3_nearest_121 : decode cX3_nearest 121 = .ok (.iadd, 1) := by decide +kernel
theorem dX3_nearest_122 : decode cX3_nearest 122 = .ok (.iconst 1, 1) := by decide +kernel
theorem dX3_nearest_123 : decode cX3_nearest 123 = .ok (.isub, 1) := by decide +kernel
theorem dX3_nearest_124 : decode cX3_nearest 124 = .ok (.invokevirtual 165, 3) := by decide +kernel
theorem dX3_nearest_127 : decode cX3_nearest 127 = .ok (.istore 5, 2) := by decide +kernel
theorem dX3_nearest_129 : decode cX3_nearest 129 = .ok (.iload 4, 2) := by decide +kernel
theorem dX3_nearest_131 : decode cX3_nearest 131 = .ok (.iload 5, 2) := by decide +kernel
theorem dX3_nearest_133 : decode cX3_nearest 133 = .ok (.invokestatic 162, 3) := by decide +kernel
theorem dX3_nearest_136 : decode cX3_nearest 136 = .ok (.iload 7, 2) := by decide +kernel
theorem dX3_nearest_138 : decode cX3_nearest 138 = .ok (.if_icmp .ge 16, 3) := by decide +kernel
theorem dX3_nearest_141 : decode cX3_nearest 141 = .ok (.iload 4, 2) := by decide +kernel
theorem dX3_nearest_143 : decode cX3_nearest 143 = .ok (.iload 5, 2) := by decide +kernel
theorem dX3_nearest_145 : decode cX3_nearest 145 = .ok (.invokestatic 162, 3) := by decide +kernel
theorem dX3_nearest_148 : decode cX3_nearest 148 = .ok (.istore 7, 2) := by decide +kernel
theorem dX3_nearest_150 : decode cX3_nearest 150 = .ok (.iload 8, 2) := by decide +kernel
theorem dX3_nearest_152 : decode cX3_nearest 152 = .ok (.istore 6, 2) := by decide +kernel
theorem dX3_nearest_154 : decode cX3_nearest 154 = .ok (.iinc 8 1, 3) := by decide +kernel
theorem dX3_nearest_157 : decode cX3_nearest 157 = .ok (.goto (-99), 3) := by decide +kernel
theorem dX3_nearest_160 : decode cX3_nearest 160 = .ok (.iload_n 3, 1) := by decide +kernel
theorem dX3_nearest_161 : decode cX3_nearest 161 = .ok (.ifCond .ne 8, 3) := by decide +kernel
theorem dX3_nearest_164 : decode cX3_nearest 164 = .ok (.iload 6, 2) := by decide +kernel
theorem dX3_nearest_166 : decode cX3_nearest 166 = .ok (.goto 5, 3) := by decide +kernel
theorem dX3_nearest_169 : decode cX3_nearest 169 = .ok (.iload 7, 2) := by decide +kernel
theorem dX3_nearest_171 : decode cX3_nearest 171 = .ok (.ireturn, 1) := by decide +kernel
set_option maxRecDepth 20000 in
theorem ggX3_dogs_X3_isFloe : GoodIn wsX3_dogs wsX3_isFloe := goodIn_r _ [11, 1, 12, 13, 14, 10, 15, 69, 70, 71, 72, 73, 74, 75, 76, 77, 78, 79, 80, 81, 82, 83, 84, 85, 86, 87, 88, 89, 90, 91, 92, 93] (by decide +kernel) (by decide +kernel)
set_option maxRecDepth 20000 in
theorem gX3_dogs_X3_isFloe : GoodIn wsX3_dogs (wsV RX3 114 RX3 yX3_isFloe wsX3_isFloe) := goodIn_app (goodIn_of _ (by decide +kernel)) ggX3_dogs_X3_isFloe
set_option maxRecDepth 20000 in
theorem ggX3_dogs_X3_isFirstOrSecond : GoodIn wsX3_dogs wsX3_isFirstOrSecond := goodIn_r _ [18, 13, 14, 10, 15] (by decide +kernel) (by decide +kernel)
set_option maxRecDepth 20000 in
theorem gX3_dogs_X3_isFirstOrSecond : GoodIn wsX3_dogs (va_wsS RX3 159 yX3_isFirstOrSecond wsX3_isFirstOrSecond) := goodIn_app (goodIn_of _ (by decide +kernel)) ggX3_dogs_X3_isFirstOrSecond
set_option maxRecDepth 20000 in
theorem ggX3_dogs_X3_refuseBad : GoodIn wsX3_dogs wsX3_refuseBad := goodIn_r _ [22, 23, 69, 70, 71, 72, 73, 74, 75, 76, 77, 78, 79, 80] (by decide +kernel) (by decide +kernel)
set_option maxRecDepth 20000 in
theorem gX3_dogs_X3_refuseBad : GoodIn wsX3_dogs (wsV RX3 49 RX3 yX3_refuseBad wsX3_refuseBad) := goodIn_app (goodIn_of _ (by decide +kernel)) ggX3_dogs_X3_refuseBad
set_option maxRecDepth 20000 in
theorem ggX3_dogs_X3_far : GoodIn wsX3_dogs wsX3_far := goodIn_r _ [26, 27, 28, 5, 29] (by decide +kernel) (by decide +kernel)
set_option maxRecDepth 20000 in
theorem gX3_dogs_X3_far : GoodIn wsX3_dogs (va_wsS RX3 162 yX3_far wsX3_far) := goodIn_app (goodIn_of _ (by decide +kernel)) ggX3_dogs_X3_far
set_option maxRecDepth 20000 in
theorem ggX3_dogs_X3_dogMonths : GoodIn wsX3_dogs wsX3_dogMonths := goodIn_r _ [32] (by decide +kernel) (by decide +kernel)
set_option maxRecDepth 20000 in
theorem gX3_dogs_X3_dogMonths : GoodIn wsX3_dogs (va_wsS RX3 169 yX3_dogMonths wsX3_dogMonths) := goodIn_app (goodIn_of _ (by decide +kernel)) ggX3_dogs_X3_dogMonths
set_option maxRecDepth 20000 in
theorem ggX3_dogs_X3_dogsAndBack : GoodIn wsX3_dogs wsX3_dogsAndBack := goodIn_r _ [36, 1, 37, 38, 39, 40, 41, 42, 43, 44, 45, 46, 47, 48, 49, 50, 51, 52, 53, 54, 55, 56, 57, 58, 59, 60, 5, 61, 62, 4, 6, 63, 64, 65, 66, 67, 68, 24, 25, 10, 26, 27, 28, 29, 30, 31, 32, 69, 70, 71, 72, 73, 74, 75, 76, 77, 78, 79, 80, 81, 82, 83, 84, 85, 86, 87, 88, 89, 90, 91, 92, 93] (by decide +kernel) (by decide +kernel)
set_option maxRecDepth 20000 in
theorem gX3_dogs_X3_dogsAndBack : GoodIn wsX3_dogs (wsV RX3 173 RX3 yX3_dogsAndBack wsX3_dogsAndBack) := goodIn_app (goodIn_of _ (by decide +kernel)) ggX3_dogs_X3_dogsAndBack
theorem dX3_dogs_0 : decode cX3_dogs 0 = .ok (.aload_n 0, 1) := by decide +kernel
theorem dX3_dogs_1 : decode cX3_dogs 1 = .ok (.iload_n 1, 1) := by decide +kernel
theorem dX3_dogs_2 : decode cX3_dogs 2 = .ok (.invokevirtual 114, 3) := by decide +kernel
theorem dX3_dogs_5 : decode cX3_dogs 5 = .ok (.ifCond .eq 10, 3) := by decide +kernel
theorem dX3_dogs_8 : decode cX3_dogs 8 = .ok (.iload_n 2, 1) := by decide +kernel
theorem dX3_dogs_9 : decode cX3_dogs 9 = .ok (.invokestatic 159, 3) := by decide +kernel
theorem dX3_dogs_12 : decode cX3_dogs 12 = .ok (.ifCond .ne 8, 3) := by decide +kernel
theorem dX3_dogs_15 : decode cX3_dogs 15 = .ok (.aload_n 0, 1) := by decide +kernel
theorem dX3_dogs_16 : decode cX3_dogs 16 = .ok (.invokevirtual 49, 3) := by decide +kernel
theorem dX3_dogs_19 : decode cX3_dogs 19 = .ok (.ireturn, 1) := by decide +kernel
theorem dX3_dogs_20 : decode cX3_dogs 20 = .ok (.iconst 1, 1) := by decide +kernel
theorem dX3_dogs_21 : decode cX3_dogs 21 = .ok (.aload_n 0, 1) := by decide +kernel
theorem dX3_dogs_22 : decode cX3_dogs 22 = .ok (.getfield 10, 3) := by decide +kernel
theorem dX3_dogs_25 : decode cX3_dogs 25 = .ok (.getfield 126, 3) := by decide +kernel
theorem dX3_dogs_28 : decode cX3_dogs 28 = .ok (.iload_n 1, 1) := by decide +kernel
theorem dX3_dogs_29 : decode cX3_dogs 29 = .ok (.iaload, 1) := by decide +kernel
theorem dX3_dogs_30 : decode cX3_dogs 30 = .ok (.bipush 14, 2) := by decide +kernel
theorem dX3_dogs_32 : decode cX3_dogs 32 = .ok (.invokestatic 162, 3) := by decide +kernel
theorem dX3_dogs_35 : decode cX3_dogs 35 = .ok (.invokestatic 169, 3) := by decide +kernel
theorem dX3_dogs_38 : decode cX3_dogs 38 = .ok (.invokestatic 153, 3) := by decide +kernel
theorem dX3_dogs_41 : decode cX3_dogs 41 = .ok (.istore_n 3, 1) := by decide +kernel
theorem dX3_dogs_42 : decode cX3_dogs 42 = .ok (.iload_n 2, 1) := by decide +kernel
theorem dX3_dogs_43 : decode cX3_dogs 43 = .ok (.ifCond .ne 12, 3) := by decide +kernel
theorem dX3_dogs_46 : decode cX3_dogs 46 = .ok (.aload_n 0, 1) := by decide +kernel
theorem dX3_dogs_47 : decode cX3_dogs 47 = .ok (.iload_n 1, 1) := by decide +kernel
theorem dX3_dogs_48 : decode cX3_dogs 48 = .ok (.iload_n 3, 1) := by decide +kernel
theorem dX3_dogs_49 : decode cX3_dogs 49 = .ok (.invokevirtual 173, 3) := by decide +kernel
theorem dX3_dogs_52 : decode cX3_dogs 52 = .ok (.goto 4, 3) := by decide +kernel
theorem dX3_dogs_55 : decode cX3_dogs 55 = .ok (.iload_n 3, 1) := by decide +kernel
theorem dX3_dogs_56 : decode cX3_dogs 56 = .ok (.ireturn, 1) := by decide +kernel
set_option maxRecDepth 20000 in
theorem ggX3_found_X3_isKind : GoodIn wsX3_found wsX3_isKind := goodIn_r _ [6, 7, 8, 5, 9] (by decide +kernel) (by decide +kernel)
set_option maxRecDepth 20000 in
theorem gX3_found_X3_isKind : GoodIn wsX3_found (va_wsS RX3 75 yX3_isKind wsX3_isKind) := goodIn_app (goodIn_of _ (by decide +kernel)) ggX3_found_X3_isKind
set_option maxRecDepth 20000 in
theorem ggX3_found_X3_within : GoodIn wsX3_found wsX3_within := goodIn_r _ [9] (by decide +kernel) (by decide +kernel)
set_option maxRecDepth 20000 in
theorem gX3_found_X3_within : GoodIn wsX3_found (va_wsS RX3 45 yX3_within wsX3_within) := goodIn_app (goodIn_of _ (by decide +kernel)) ggX3_found_X3_within
set_option maxRecDepth 20000 in
theorem ggX3_found_X3_isCell : GoodIn wsX3_found wsX3_isCell := goodIn_r _ [12, 7, 8, 5, 9] (by decide +kernel) (by decide +kernel)
set_option maxRecDepth 20000 in
theorem gX3_found_X3_isCell : GoodIn wsX3_found (va_wsS RX3 79 yX3_isCell wsX3_isCell) := goodIn_app (goodIn_of _ (by decide +kernel)) ggX3_found_X3_isCell
set_option maxRecDepth 20000 in
theorem ggX3_found_X3_refuseBad : GoodIn wsX3_found wsX3_refuseBad := goodIn_r _ [16, 17, 30, 31, 32, 33, 34, 35, 36, 37, 38, 39, 40, 41] (by decide +kernel) (by decide +kernel)
set_option maxRecDepth 20000 in
theorem gX3_found_X3_refuseBad : GoodIn wsX3_found (wsV RX3 49 RX3 yX3_refuseBad wsX3_refuseBad) := goodIn_app (goodIn_of _ (by decide +kernel)) ggX3_found_X3_refuseBad
set_option maxRecDepth 20000 in
theorem ggX3_found_X3_refuseFull : GoodIn wsX3_found wsX3_refuseFull := goodIn_r _ [21, 22, 30, 31, 32, 33, 34, 35, 36, 37, 38, 39, 40, 41] (by decide +kernel) (by decide +kernel)
set_option maxRecDepth 20000 in
theorem gX3_found_X3_refuseFull : GoodIn wsX3_found (wsV RX3 82 RX3 yX3_refuseFull wsX3_refuseFull) := goodIn_app (goodIn_of _ (by decide +kernel)) ggX3_found_X3_refuseFull
set_option maxRecDepth 20000 in
theorem ggX3_found_X1_addFound : GoodIn wsX3_found wsX1_addFound := goodIn_r _ [27, 28, 29, 42, 43, 44, 45, 46, 47, 48, 49, 50, 51, 52, 53, 54] (by decide +kernel) (by decide +kernel)
set_option maxRecDepth 20000 in
theorem gX3_found_X1_addFound : GoodIn wsX3_found (wsV RX3 179 RX1 yX1_addFound wsX1_addFound) := goodIn_app (goodIn_of _ (by decide +kernel)) ggX3_found_X1_addFound
theorem dX3_found_0 : decode cX3_found 0 = .ok (.iload_n 1, 1) := by decide +kernel
theorem dX3_found_1 : decode cX3_found 1 = .ok (.invokestatic 75, 3) := by decide +kernel
theorem dX3_found_4 : decode cX3_found 4 = .ok (.ifCond .eq 20, 3) := by decide +kernel
theorem dX3_found_7 : decode cX3_found 7 = .ok (.iload_n 2, 1) := by decide +kernel
theorem dX3_found_8 : decode cX3_found 8 = .ok (.iconst 1, 1) := by decide +kernel
theorem dX3_found_9 : decode cX3_found 9 = .ok (.bipush 60, 2) := by decide +kernel
theorem dX3_found_11 : decode cX3_found 11 = .ok (.invokestatic 45, 3) := by decide +kernel
theorem dX3_found_14 : decode cX3_found 14 = .ok (.ifCond .eq 10, 3) := by decide +kernel
theorem dX3_found_17 : decode cX3_found 17 = .ok (.iload_n 3, 1) := by decide +kernel
theorem dX3_found_18 : decode cX3_found 18 = .ok (.invokestatic 79, 3) := by decide +kernel
theorem dX3_found_21 : decode cX3_found 21 = .ok (.ifCond .ne 8, 3) := by decide +kernel
theorem dX3_found_24 : decode cX3_found 24 = .ok (.aload_n 0, 1) := by decide +kernel
theorem dX3_found_25 : decode cX3_found 25 = .ok (.invokevirtual 49, 3) := by decide +kernel
theorem dX3_found_28 : decode cX3_found 28 = .ok (.ireturn, 1) := by decide +kernel
theorem dX3_found_29 : decode cX3_found 29 = .ok (.aload_n 0, 1) := by decide +kernel
theorem dX3_found_30 : decode cX3_found 30 = .ok (.getfield 10, 3) := by decide +kernel
theorem dX3_found_33 : decode cX3_found 33 = .ok (.getfield 176, 3) := by decide +kernel
theorem dX3_found_36 : decode cX3_found 36 = .ok (.iconst 4, 1) := by decide +kernel
theorem dX3_found_37 : decode cX3_found 37 = .ok (.if_icmp .lt 8, 3) := by decide +kernel
theorem dX3_found_40 : decode cX3_found 40 = .ok (.aload_n 0, 1) := by decide +kernel
theorem dX3_found_41 : decode cX3_found 41 = .ok (.invokevirtual 82, 3) := by decide +kernel
theorem dX3_found_44 : decode cX3_found 44 = .ok (.ireturn, 1) := by decide +kernel
theorem dX3_found_45 : decode cX3_found 45 = .ok (.aload_n 0, 1) := by decide +kernel
theorem dX3_found_46 : decode cX3_found 46 = .ok (.getfield 10, 3) := by decide +kernel
theorem dX3_found_49 : decode cX3_found 49 = .ok (.iload_n 1, 1) := by decide +kernel
theorem dX3_found_50 : decode cX3_found 50 = .ok (.iload_n 2, 1) := by decide +kernel
theorem dX3_found_51 : decode cX3_found 51 = .ok (.iload_n 3, 1) := by decide +kernel
theorem dX3_found_52 : decode cX3_found 52 = .ok (.invokevirtual 179, 3) := by decide +kernel
theorem dX3_found_55 : decode cX3_found 55 = .ok (.aload_n 0, 1) := by decide +kernel
theorem dX3_found_56 : decode cX3_found 56 = .ok (.getfield 10, 3) := by decide +kernel
theorem dX3_found_59 : decode cX3_found 59 = .ok (.getfield 176, 3) := by decide +kernel
theorem dX3_found_62 : decode cX3_found 62 = .ok (.ireturn, 1) := by decide +kernel
set_option maxRecDepth 20000 in
theorem ggX3_whence_X3_isFirstOrSecond : GoodIn wsX3_whence wsX3_isFirstOrSecond := goodIn_r _ [5, 6, 7, 4, 8] (by decide +kernel) (by decide +kernel)
set_option maxRecDepth 20000 in
theorem gX3_whence_X3_isFirstOrSecond : GoodIn wsX3_whence (va_wsS RX3 159 yX3_isFirstOrSecond wsX3_isFirstOrSecond) := goodIn_app (goodIn_of _ (by decide +kernel)) ggX3_whence_X3_isFirstOrSecond
set_option maxRecDepth 20000 in
theorem ggX3_whence_X3_refuseBad : GoodIn wsX3_whence wsX3_refuseBad := goodIn_r _ [12, 13, 48, 49, 50, 51, 52, 53, 54, 55, 56, 57, 58, 59] (by decide +kernel) (by decide +kernel)
set_option maxRecDepth 20000 in
theorem gX3_whence_X3_refuseBad : GoodIn wsX3_whence (wsV RX3 49 RX3 yX3_refuseBad wsX3_refuseBad) := goodIn_app (goodIn_of _ (by decide +kernel)) ggX3_whence_X3_refuseBad
set_option maxRecDepth 20000 in
theorem ggX3_whence_X1_allFoundFrom : GoodIn wsX3_whence wsX1_allFoundFrom := goodIn_r _ [18, 19, 20, 21, 22, 23, 17, 24, 25, 26, 27, 28, 29, 30, 31, 32, 33, 34, 35, 36, 37, 38, 39, 40, 41, 42, 43, 44, 45, 46, 47, 60, 61, 62, 63, 64, 65, 66, 67, 68, 69, 70, 71, 72] (by decide +kernel) (by decide +kernel)
set_option maxRecDepth 20000 in
theorem gX3_whence_X1_allFoundFrom : GoodIn wsX3_whence (wsV RX3 182 RX1 yX1_allFoundFrom wsX1_allFoundFrom) := goodIn_app (goodIn_of _ (by decide +kernel)) ggX3_whence_X1_allFoundFrom
theorem dX3_whence_0 : decode cX3_whence 0 = .ok (.iload_n 1, 1) := by decide +kernel
theorem dX3_whence_1 : decode cX3_whence 1 = .ok (.invokestatic 159, 3) := by decide +kernel
theorem dX3_whence_4 : decode cX3_whence 4 = .ok (.ifCond .ne 8, 3) := by decide +kernel
theorem dX3_whence_7 : decode cX3_whence 7 = .ok (.aload_n 0, 1) := by decide +kernel
theorem dX3_whence_8 : decode cX3_whence 8 = .ok (.invokevirtual 49, 3) := by decide +kernel
theorem dX3_whence_11 : decode cX3_whence 11 = .ok (.ireturn, 1) := by decide +kernel
theorem dX3_whence_12 : decode cX3_whence 12 = .ok (.iconst 0, 1) := by decide +kernel
theorem dX3_whence_13 : decode cX3_whence 13 = .ok (.istore_n 2, 1) := by decide +kernel
theorem dX3_whence_14 : decode cX3_whence 14 = .ok (.iconst (-1), 1) := by decide +kernel
theorem dX3_whence_15 : decode cX3_whence 15 = .ok (.istore_n 3, 1) := by decide +kernel
theorem dX3_whence_16 : decode cX3_whence 16 = .ok (.bipush 35, 2) := by decide +kernel
theorem dX3_whence_18 : decode cX3_whence 18 = .ok (.istore 4, 2) := by decide +kernel
theorem dX3_whence_20 : decode cX3_whence 20 = .ok (.iload 4, 2) := by decide +kernel
theorem dX3_whence_22 : decode cX3_whence 22 = .ok (.ifCond .lt 27, 3) := by decide +kernel
theorem dX3_whence_25 : decode cX3_whence 25 = .ok (.aload_n 0, 1) := by decide +kernel
theorem dX3_whence_26 : decode cX3_whence 26 = .ok (.getfield 10, 3) := by decide +kernel
theorem dX3_whence_29 : decode cX3_whence 29 = .ok (.iload 4, 2) := by decide +kernel
theorem dX3_whence_31 : decode cX3_whence 31 = .ok (.invokevirtual 182, 3) := by decide +kernel
theorem dX3_whence_34 : decode cX3_whence 34 = .ok (.ifCond .eq 9, 3) := by decide +kernel
theorem dX3_whence_37 : decode cX3_whence 37 = .ok (.iinc 2 1, 3) := by decide +kernel
theorem dX3_whence_40 : decode cX3_whence 40 = .ok (.iload 4, 2) := by decide +kernel
theorem dX3_whence_42 : decode cX3_whence 42 = .ok (.istore_n 3, 1) := by decide +kernel
theorem dX3_whence_43 : decode cX3_whence 43 = .ok (.iinc 4 (-1), 3) := by decide +kernel
theorem dX3_whence_46 : decode cX3_whence 46 = .ok (.goto (-26), 3) := by decide +kernel
theorem dX3_whence_49 : decode cX3_whence 49 = .ok (.iload_n 1, 1) := by decide +kernel
theorem dX3_whence_50 : decode cX3_whence 50 = .ok (.ifCond .ne 7, 3) := by decide +kernel
theorem dX3_whence_53 : decode cX3_whence 53 = .ok (.iload_n 2, 1) := by decide +kernel
theorem dX3_whence_54 : decode cX3_whence 54 = .ok (.goto 4, 3) := by decide +kernel
theorem dX3_whence_57 : decode cX3_whence 57 = .ok (.iload_n 3, 1) := by decide +kernel
theorem dX3_whence_58 : decode cX3_whence 58 = .ok (.ireturn, 1) := by decide +kernel
set_option maxRecDepth 20000 in
theorem ggX3_note_X3_isFloe : GoodIn wsX3_note wsX3_isFloe := goodIn_r _ [7, 1, 8, 9, 10, 6, 11, 32, 33, 34, 35, 36, 37, 38, 39, 40, 41, 42, 43, 44, 45, 46, 47, 48, 49, 50, 51, 52, 53, 54, 55, 56] (by decide +kernel) (by decide +kernel)
set_option maxRecDepth 20000 in
theorem gX3_note_X3_isFloe : GoodIn wsX3_note (wsV RX3 114 RX3 yX3_isFloe wsX3_isFloe) := goodIn_app (goodIn_of _ (by decide +kernel)) ggX3_note_X3_isFloe
set_option maxRecDepth 20000 in
theorem ggX3_note_X3_within : GoodIn wsX3_note wsX3_within := goodIn_r _ [11] (by decide +kernel) (by decide +kernel)
set_option maxRecDepth 20000 in
theorem gX3_note_X3_within : GoodIn wsX3_note (va_wsS RX3 45 yX3_within wsX3_within) := goodIn_app (goodIn_of _ (by decide +kernel)) ggX3_note_X3_within
set_option maxRecDepth 20000 in
theorem ggX3_note_X3_isWind : GoodIn wsX3_note wsX3_isWind := goodIn_r _ [14, 9, 10, 6, 11] (by decide +kernel) (by decide +kernel)
set_option maxRecDepth 20000 in
theorem gX3_note_X3_isWind : GoodIn wsX3_note (va_wsS RX3 61 yX3_isWind wsX3_isWind) := goodIn_app (goodIn_of _ (by decide +kernel)) ggX3_note_X3_isWind
set_option maxRecDepth 20000 in
theorem ggX3_note_X3_refuseBad : GoodIn wsX3_note wsX3_refuseBad := goodIn_r _ [18, 19, 32, 33, 34, 35, 36, 37, 38, 39, 40, 41, 42, 43] (by decide +kernel) (by decide +kernel)
set_option maxRecDepth 20000 in
theorem gX3_note_X3_refuseBad : GoodIn wsX3_note (wsV RX3 49 RX3 yX3_refuseBad wsX3_refuseBad) := goodIn_app (goodIn_of _ (by decide +kernel)) ggX3_note_X3_refuseBad
set_option maxRecDepth 20000 in
theorem ggX3_note_X3_refuseFull : GoodIn wsX3_note wsX3_refuseFull := goodIn_r _ [23, 24, 32, 33, 34, 35, 36, 37, 38, 39, 40, 41, 42, 43] (by decide +kernel) (by decide +kernel)
set_option maxRecDepth 20000 in
theorem gX3_note_X3_refuseFull : GoodIn wsX3_note (wsV RX3 82 RX3 yX3_refuseFull wsX3_refuseFull) := goodIn_app (goodIn_of _ (by decide +kernel)) ggX3_note_X3_refuseFull
set_option maxRecDepth 20000 in
theorem ggX3_note_X1_addNote : GoodIn wsX3_note wsX1_addNote := goodIn_r _ [29, 30, 31, 44, 45, 46, 47, 48, 49, 50, 51, 52, 53, 54, 55, 56] (by decide +kernel) (by decide +kernel)
set_option maxRecDepth 20000 in
theorem gX3_note_X1_addNote : GoodIn wsX3_note (wsV RX3 188 RX1 yX1_addNote wsX1_addNote) := goodIn_app (goodIn_of _ (by decide +kernel)) ggX3_note_X1_addNote
theorem dX3_note_0 : decode cX3_note 0 = .ok (.aload_n 0, 1) := by decide +kernel
theorem dX3_note_1 : decode cX3_note 1 = .ok (.iload_n 1, 1) := by decide +kernel
theorem dX3_note_2 : decode cX3_note 2 = .ok (.invokevirtual 114, 3) := by decide +kernel
theorem dX3_note_5 : decode cX3_note 5 = .ok (.ifCond .eq 46, 3) := by decide +kernel
theorem dX3_note_8 : decode cX3_note 8 = .ok (.iload_n 2, 1) := by decide +kernel
theorem dX3_note_9 : decode cX3_note 9 = .ok (.iconst 0, 1) := by decide +kernel
theorem dX3_note_10 : decode cX3_note 10 = .ok (.bipush 99, 2) := by decide +kernel
theorem dX3_note_12 : decode cX3_note 12 = .ok (.invokestatic 45, 3) := by decide +kernel
theorem dX3_note_15 : decode cX3_note 15 = .ok (.ifCond .eq 36, 3) := by decide +kernel
theorem dX3_note_18 : decode cX3_note 18 = .ok (.iload_n 3, 1) := by decide +kernel
theorem dX3_note_19 : decode cX3_note 19 = .ok (.iload 4, 2) := by decide +kernel
theorem dX3_note_21 : decode cX3_note 21 = .ok (.invokestatic 61, 3) := by decide +kernel
theorem dX3_note_24 : decode cX3_note 24 = .ok (.ifCond .eq 27, 3) := by decide +kernel
theorem dX3_note_27 : decode cX3_note 27 = .ok (.iload 5, 2) := by decide +kernel
theorem dX3_note_29 : decode cX3_note 29 = .ok (.iconst 0, 1) := by decide +kernel
theorem dX3_note_30 : decode cX3_note 30 = .ok (.iconst 5, 1) := by decide +kernel
theorem dX3_note_31 : decode cX3_note 31 = .ok (.invokestatic 45, 3) := by decide +kernel
theorem dX3_note_34 : decode cX3_note 34 = .ok (.ifCond .eq 17, 3) := by decide +kernel
theorem dX3_note_37 : decode cX3_note 37 = .ok (.iload 6, 2) := by decide +kernel
theorem dX3_note_39 : decode cX3_note 39 = .ok (.iload 7, 2) := by decide +kernel
theorem dX3_note_41 : decode cX3_note 41 = .ok (.invokestatic 61, 3) := by decide +kernel
theorem dX3_note_44 : decode cX3_note 44 = .ok (.ifCond .eq 7, 3) := by decide +kernel
theorem dX3_note_47 : decode cX3_note 47 = .ok (.iconst 1, 1) := by decide +kernel
theorem dX3_note_48 : decode cX3_note 48 = .ok (.goto 4, 3) := by decide +kernel
theorem dX3_note_51 : decode cX3_note 51 = .ok (.iconst 0, 1) := by decide +kernel
theorem dX3_note_52 : decode cX3_note 52 = .ok (.istore 8, 2) := by decide +kernel
theorem dX3_note_54 : decode cX3_note 54 = .ok (.iload 8, 2) := by decide +kernel
theorem dX3_note_56 : decode cX3_note 56 = .ok (.ifCond .ne 8, 3) := by decide +kernel
theorem dX3_note_59 : decode cX3_note 59 = .ok (.aload_n 0, 1) := by decide +kernel
theorem dX3_note_60 : decode cX3_note 60 = .ok (.invokevirtual 49, 3) := by decide +kernel
theorem dX3_note_63 : decode cX3_note 63 = .ok (.ireturn, 1) := by decide +kernel
theorem dX3_note_64 : decode cX3_note 64 = .ok (.aload_n 0, 1) := by decide +kernel
theorem dX3_note_65 : decode cX3_note 65 = .ok (.getfield 10, 3) := by decide +kernel
theorem dX3_note_68 : decode cX3_note 68 = .ok (.getfield 185, 3) := by decide +kernel
theorem dX3_note_71 : decode cX3_note 71 = .ok (.bipush 6, 2) := by decide +kernel
theorem dX3_note_73 : decode cX3_note 73 = .ok (.if_icmp .lt 8, 3) := by decide +kernel
theorem dX3_note_76 : decode cX3_note 76 = .ok (.aload_n 0, 1) := by decide +kernel
theorem dX3_note_77 : decode cX3_note 77 = .ok (.invokevirtual 82, 3) := by decide +kernel
theorem dX3_note_80 : decode cX3_note 80 = .ok (.ireturn, 1) := by decide +kernel
theorem dX3_note_81 : decode cX3_note 81 = .ok (.aload_n 0, 1) := by decide +kernel
theorem dX3_note_82 : decode cX3_note 82 = .ok (.getfield 10, 3) := by decide +kernel
theorem dX3_note_85 : decode cX3_note 85 = .ok (.iload_n 1, 1) := by decide +kernel
theorem dX3_note_86 : decode cX3_note 86 = .ok (.iload_n 2, 1) := by decide +kernel
theorem dX3_note_87 : decode cX3_note 87 = .ok (.iload_n 3, 1) := by decide +kernel
theorem dX3_note_88 : decode cX3_note 88 = .ok (.iload 4, 2) := by decide +kernel
theorem dX3_note_90 : decode cX3_note 90 = .ok (.iload 5, 2) := by decide +kernel
theorem dX3_note_92 : decode cX3_note 92 = .ok (.iload 6, 2) := by decide +kernel
theorem dX3_note_94 : decode cX3_note 94 = .ok (.iload 7, 2) := by decide +kernel
theorem dX3_note_96 : decode cX3_note 96 = .ok (.invokevirtual 188, 3) := by decide +kernel
theorem dX3_note_99 : decode cX3_note 99 = .ok (.aload_n 0, 1) := by decide +kernel
theorem dX3_note_100 : decode cX3_note 100 = .ok (.getfield 10, 3) := by decide +kernel
theorem dX3_note_103 : decode cX3_note 103 = .ok (.getfield 185, 3) := by decide +kernel
theorem dX3_note_106 : decode cX3_note 106 = .ok (.ireturn, 1) := by decide +kernel
set_option maxRecDepth 20000 in
theorem ggX3_forget_X3_isFirstOrSecond : GoodIn wsX3_forget wsX3_isFirstOrSecond := goodIn_r _ [7, 8, 9, 6, 10] (by decide +kernel) (by decide +kernel)
set_option maxRecDepth 20000 in
theorem gX3_forget_X3_isFirstOrSecond : GoodIn wsX3_forget (va_wsS RX3 159 yX3_isFirstOrSecond wsX3_isFirstOrSecond) := goodIn_app (goodIn_of _ (by decide +kernel)) ggX3_forget_X3_isFirstOrSecond
set_option maxRecDepth 20000 in
theorem ggX3_forget_X3_refuseBad : GoodIn wsX3_forget wsX3_refuseBad := goodIn_r _ [14, 15, 16, 17, 18, 19, 20, 21, 22, 23, 24, 25, 26, 27] (by decide +kernel) (by decide +kernel)
set_option maxRecDepth 20000 in
theorem gX3_forget_X3_refuseBad : GoodIn wsX3_forget (wsV RX3 49 RX3 yX3_refuseBad wsX3_refuseBad) := goodIn_app (goodIn_of _ (by decide +kernel)) ggX3_forget_X3_refuseBad
theorem dX3_forget_0 : decode cX3_forget 0 = .ok (.iload_n 1, 1) := by decide +kernel
theorem dX3_forget_1 : decode cX3_forget 1 = .ok (.invokestatic 159, 3) := by decide +kernel
theorem dX3_forget_4 : decode cX3_forget 4 = .ok (.ifCond .ne 8, 3) := by decide +kernel
theorem dX3_forget_7 : decode cX3_forget 7 = .ok (.aload_n 0, 1) := by decide +kernel
theorem dX3_forget_8 : decode cX3_forget 8 = .ok (.invokevirtual 49, 3) := by decide +kernel
theorem dX3_forget_11 : decode cX3_forget 11 = .ok (.ireturn, 1) := by decide +kernel
theorem dX3_forget_12 : decode cX3_forget 12 = .ok (.iload_n 1, 1) := by decide +kernel
theorem dX3_forget_13 : decode cX3_forget 13 = .ok (.ifCond .ne 13, 3) := by decide +kernel
theorem dX3_forget_16 : decode cX3_forget 16 = .ok (.aload_n 0, 1) := by decide +kernel
theorem dX3_forget_17 : decode cX3_forget 17 = .ok (.getfield 10, 3) := by decide +kernel
theorem dX3_forget_20 : decode cX3_forget 20 = .ok (.getfield 176, 3) := by decide +kernel
theorem dX3_forget_23 : decode cX3_forget 23 = .ok (.goto 10, 3) := by decide +kernel
theorem dX3_forget_26 : decode cX3_forget 26 = .ok (.aload_n 0, 1) := by decide +kernel
theorem dX3_forget_27 : decode cX3_forget 27 = .ok (.getfield 10, 3) := by decide +kernel
theorem dX3_forget_30 : decode cX3_forget 30 = .ok (.getfield 185, 3) := by decide +kernel
theorem dX3_forget_33 : decode cX3_forget 33 = .ok (.istore_n 2, 1) := by decide +kernel
theorem dX3_forget_34 : decode cX3_forget 34 = .ok (.iload_n 1, 1) := by decide +kernel
theorem dX3_forget_35 : decode cX3_forget 35 = .ok (.ifCond .ne 14, 3) := by decide +kernel
theorem dX3_forget_38 : decode cX3_forget 38 = .ok (.aload_n 0, 1) := by decide +kernel
theorem dX3_forget_39 : decode cX3_forget 39 = .ok (.getfield 10, 3) := by decide +kernel
theorem dX3_forget_42 : decode cX3_forget 42 = .ok (.iconst 0, 1) := by decide +kernel
theorem dX3_forget_43 : decode cX3_forget 43 = .ok (.putfield 176, 3) := by decide +kernel
theorem dX3_forget_46 : decode cX3_forget 46 = .ok (.goto 11, 3) := by decide +kernel
theorem dX3_forget_49 : decode cX3_forget 49 = .ok (.aload_n 0, 1) := by decide +kernel
theorem dX3_forget_50 : decode cX3_forget 50 = .ok (.getfield 10, 3) := by decide +kernel
theorem dX3_forget_53 : decode cX3_forget 53 = .ok (.iconst 0, 1) := by decide +kernel
theorem dX3_forget_54 : decode cX3_forget 54 = .ok (.putfield 185, 3) := by decide +kernel
theorem dX3_forget_57 : decode cX3_forget 57 = .ok (.iload_n 2, 1) := by decide +kernel
theorem dX3_forget_58 : decode cX3_forget 58 = .ok (.ireturn, 1) := by decide +kernel
set_option maxRecDepth 20000 in
theorem ggX3_is_X3_isFloe : GoodIn wsX3_is wsX3_isFloe := goodIn_r _ [6, 1, 7, 8, 9, 5, 10, 38, 39, 40, 41, 42, 43, 44, 45, 46, 47, 48, 49, 50, 51, 52, 53, 54, 55, 56, 57, 58, 59, 60, 61, 62] (by decide +kernel) (by decide +kernel)
set_option maxRecDepth 20000 in
theorem gX3_is_X3_isFloe : GoodIn wsX3_is (wsV RX3 114 RX3 yX3_isFloe wsX3_isFloe) := goodIn_app (goodIn_of _ (by decide +kernel)) ggX3_is_X3_isFloe
set_option maxRecDepth 20000 in
theorem ggX3_is_X1_kindsByNotes : GoodIn wsX3_is wsX1_kindsByNotes := goodIn_r _ [15, 16, 17, 18, 14, 19, 20, 21, 22, 23, 24, 25, 26, 27, 28, 29, 30, 31, 32, 50, 51, 52, 53, 54, 55, 56, 57, 58, 59, 60, 61, 62] (by decide +kernel) (by decide +kernel)
set_option maxRecDepth 20000 in
theorem gX3_is_X1_kindsByNotes : GoodIn wsX3_is (wsV RX3 192 RX1 yX1_kindsByNotes wsX1_kindsByNotes) := goodIn_app (goodIn_of _ (by decide +kernel)) ggX3_is_X1_kindsByNotes
set_option maxRecDepth 20000 in
theorem ggX3_is_X3_refuseBad : GoodIn wsX3_is wsX3_refuseBad := goodIn_r _ [36, 37, 38, 39, 40, 41, 42, 43, 44, 45, 46, 47, 48, 49] (by decide +kernel) (by decide +kernel)
set_option maxRecDepth 20000 in
theorem gX3_is_X3_refuseBad : GoodIn wsX3_is (wsV RX3 49 RX3 yX3_refuseBad wsX3_refuseBad) := goodIn_app (goodIn_of _ (by decide +kernel)) ggX3_is_X3_refuseBad
theorem dX3_is_0 : decode cX3_is 0 = .ok (.aload_n 0, 1) := by decide +kernel
theorem dX3_is_1 : decode cX3_is 1 = .ok (.iload_n 1, 1) := by decide +kernel
theorem dX3_is_2 : decode cX3_is 2 = .ok (.invokevirtual 114, 3) := by decide +kernel
theorem dX3_is_5 : decode cX3_is 5 = .ok (.ifCond .eq 14, 3) := by decide +kernel
theorem dX3_is_8 : decode cX3_is 8 = .ok (.aload_n 0, 1) := by decide +kernel
theorem dX3_is_9 : decode cX3_is 9 = .ok (.getfield 10, 3) := by decide +kernel
theorem dX3_is_12 : decode cX3_is 12 = .ok (.iload_n 1, 1) := by decide +kernel
theorem dX3_is_13 : decode cX3_is 13 = .ok (.invokevirtual 192, 3) := by decide +kernel
theorem dX3_is_16 : decode cX3_is 16 = .ok (.goto 7, 3) := by decide +kernel
theorem dX3_is_19 : decode cX3_is 19 = .ok (.aload_n 0, 1) := by decide +kernel
theorem dX3_is_20 : decode cX3_is 20 = .ok (.invokevirtual 49, 3) := by decide +kernel
theorem dX3_is_23 : decode cX3_is 23 = .ok (.ireturn, 1) := by decide +kernel
set_option maxRecDepth 20000 in
theorem ggX3_waits_X3_isFloe : GoodIn wsX3_waits wsX3_isFloe := goodIn_r _ [8, 1, 9, 10, 11, 7, 12, 59, 60, 61, 62, 63, 64, 65, 66, 67, 68, 69, 70, 71, 72, 73, 74, 75, 76, 77, 78, 79, 80, 81, 82, 83] (by decide +kernel) (by decide +kernel)
set_option maxRecDepth 20000 in
theorem gX3_waits_X3_isFloe : GoodIn wsX3_waits (wsV RX3 114 RX3 yX3_isFloe wsX3_isFloe) := goodIn_app (goodIn_of _ (by decide +kernel)) ggX3_waits_X3_isFloe
set_option maxRecDepth 20000 in
theorem ggX3_waits_X3_refuseBad : GoodIn wsX3_waits wsX3_refuseBad := goodIn_r _ [16, 17, 59, 60, 61, 62, 63, 64, 65, 66, 67, 68, 69, 70] (by decide +kernel) (by decide +kernel)
set_option maxRecDepth 20000 in
theorem gX3_waits_X3_refuseBad : GoodIn wsX3_waits (wsV RX3 49 RX3 yX3_refuseBad wsX3_refuseBad) := goodIn_app (goodIn_of _ (by decide +kernel)) ggX3_waits_X3_refuseBad
set_option maxRecDepth 20000 in
theorem ggX3_waits_X1_kindsByNotes : GoodIn wsX3_waits wsX1_kindsByNotes := goodIn_r _ [22, 23, 24, 25, 21, 26, 27, 28, 29, 30, 31, 32, 33, 34, 35, 36, 37, 38, 39, 71, 72, 73, 74, 75, 76, 77, 78, 79, 80, 81, 82, 83] (by decide +kernel) (by decide +kernel)
set_option maxRecDepth 20000 in
theorem gX3_waits_X1_kindsByNotes : GoodIn wsX3_waits (wsV RX3 192 RX1 yX1_kindsByNotes wsX1_kindsByNotes) := goodIn_app (goodIn_of _ (by decide +kernel)) ggX3_waits_X1_kindsByNotes
set_option maxRecDepth 20000 in
theorem ggX3_waits_X1_mostAlike : GoodIn wsX3_waits wsX1_mostAlike := goodIn_r _ [43, 44, 45, 46, 47, 48, 49, 50, 21, 51, 52, 53, 54, 55, 35, 56, 57, 34, 36, 58, 38, 39, 71, 72, 73, 74, 75, 76, 77, 78, 79, 80, 81, 82, 83] (by decide +kernel) (by decide +kernel)
set_option maxRecDepth 20000 in
theorem gX3_waits_X1_mostAlike : GoodIn wsX3_waits (wsV RX3 195 RX1 yX1_mostAlike wsX1_mostAlike) := goodIn_app (goodIn_of _ (by decide +kernel)) ggX3_waits_X1_mostAlike
theorem dX3_waits_0 : decode cX3_waits 0 = .ok (.aload_n 0, 1) := by decide +kernel
theorem dX3_waits_1 : decode cX3_waits 1 = .ok (.iload_n 1, 1) := by decide +kernel
theorem dX3_waits_2 : decode cX3_waits 2 = .ok (.invokevirtual 114, 3) := by decide +kernel
theorem dX3_waits_5 : decode cX3_waits 5 = .ok (.ifCond .ne 8, 3) := by decide +kernel
theorem dX3_waits_8 : decode cX3_waits 8 = .ok (.aload_n 0, 1) := by decide +kernel
theorem dX3_waits_9 : decode cX3_waits 9 = .ok (.invokevirtual 49, 3) := by decide +kernel
theorem dX3_waits_12 : decode cX3_waits 12 = .ok (.ireturn, 1) := by decide +kernel
theorem dX3_waits_13 : decode cX3_waits 13 = .ok (.aload_n 0, 1) := by decide +kernel
theorem dX3_waits_14 : decode cX3_waits 14 = .ok (.getfield 10, 3) := by decide +kernel
theorem dX3_waits_17 : decode cX3_waits 17 = .ok (.iload_n 1, 1) := by decide +kernel
theorem dX3_waits_18 : decode cX3_waits 18 = .ok (.invokevirtual 192, 3) := by decide +kernel
theorem dX3_waits_21 : decode cX3_waits 21 = .ok (.istore_n 2, 1) := by decide +kernel
theorem dX3_waits_22 : decode cX3_waits 22 = .ok (.iload_n 2, 1) := by decide +kernel
theorem dX3_waits_23 : decode cX3_waits 23 = .ok (.ifCond .ne 5, 3) := by decide +kernel
theorem dX3_waits_26 : decode cX3_waits 26 = .ok (.iconst (-1), 1) := by decide +kernel
theorem dX3_waits_27 : decode cX3_waits 27 = .ok (.ireturn, 1) := by decide +kernel
theorem dX3_waits_28 : decode cX3_waits 28 = .ok (.iconst 0, 1) := by decide +kernel
theorem dX3_waits_29 : decode cX3_waits 29 = .ok (.istore_n 3, 1) := by decide +kernel
theorem dX3_waits_30 : decode cX3_waits 30 = .ok (.bipush 7, 2) := by decide +kernel
theorem dX3_waits_32 : decode cX3_waits 32 = .ok (.istore 4, 2) := by decide +kernel
theorem dX3_waits_34 : decode cX3_waits 34 = .ok (.iconst 0, 1) := by decide +kernel
theorem dX3_waits_35 : decode cX3_waits 35 = .ok (.istore 5, 2) := by decide +kernel
theorem dX3_waits_37 : decode cX3_waits 37 = .ok (.iload 5, 2) := by decide +kernel
theorem dX3_waits_39 : decode cX3_waits 39 = .ok (.bipush 24, 2) := by decide +kernel
theorem dX3_waits_41 : decode cX3_waits 41 = .ok (.if_icmp .ge 55, 3) := by decide +kernel
theorem dX3_waits_44 : decode cX3_waits 44 = .ok (.aload_n 0, 1) := by decide +kernel
theorem dX3_waits_45 : decode cX3_waits 45 = .ok (.getfield 10, 3) := by decide +kernel
theorem dX3_waits_48 : decode cX3_waits 48 = .ok (.iload_n 2, 1) := by decide +kernel
theorem dX3_waits_49 : decode cX3_waits 49 = .ok (.aload_n 0, 1) := by decide +kernel
theorem dX3_waits_50 : decode cX3_waits 50 = .ok (.getfield 10, 3) := by decide +kernel
theorem dX3_waits_53 : decode cX3_waits 53 = .ok (.getfield 138, 3) := by decide +kernel
theorem dX3_waits_56 : decode cX3_waits 56 = .ok (.iload 5, 2) := by decide +kernel
theorem dX3_waits_58 : decode cX3_waits 58 = .ok (.iadd, 1) := by decide +kernel
theorem dX3_waits_59 : decode cX3_waits 59 = .ok (.aload_n 0, 1) := by decide +kernel
theorem dX3_waits_60 : decode cX3_waits 60 = .ok (.getfield 10, 3) := by decide +kernel
theorem dX3_waits_63 : decode cX3_waits 63 = .ok (.getfield 126, 3) := by decide +kernel
theorem dX3_waits_66 : decode cX3_waits 66 = .ok (.iload_n 1, 1) := by decide +kernel
theorem dX3_waits_67 : decode cX3_waits 67 = .ok (.iaload, 1) := by decide +kernel
theorem dX3_waits_68 : decode cX3_waits 68 = .ok (.bipush 6, 2) := by decide +kernel
theorem dX3_waits_70 : decode cX3_waits 70 = .ok (.irem, 1) := by decide +kernel
theorem dX3_waits_71 : decode cX3_waits 71 = .ok (.invokevirtual 195, 3) := by decide +kernel
theorem dX3_waits_74 : decode cX3_waits 74 = .ok (.istore 6, 2) := by decide +kernel
theorem dX3_waits_76 : decode cX3_waits 76 = .ok (.iload 6, 2) := by decide +kernel
theorem dX3_waits_78 : decode cX3_waits 78 = .ok (.iload 4, 2) := by decide +kernel
theorem dX3_waits_80 : decode cX3_waits 80 = .ok (.if_icmp .ge 10, 3) := by decide +kernel
theorem dX3_waits_83 : decode cX3_waits 83 = .ok (.iload 6, 2) := by decide +kernel
theorem dX3_waits_85 : decode cX3_waits 85 = .ok (.istore 4, 2) := by decide +kernel
theorem dX3_waits_87 : decode cX3_waits 87 = .ok (.iload 5, 2) := by decide +kernel
theorem dX3_waits_89 : decode cX3_waits 89 = .ok (.istore_n 3, 1) := by decide +kernel
theorem dX3_waits_90 : decode cX3_waits 90 = .ok (.iinc 5 1, 3) := by decide +kernel
theorem dX3_waits_93 : decode cX3_waits 93 = .ok (.goto (-56), 3) := by decide +kernel
theorem dX3_waits_96 : decode cX3_waits 96 = .ok (.iload_n 3, 1) := by decide +kernel
theorem dX3_waits_97 : decode cX3_waits 97 = .ok (.ireturn, 1) := by decide +kernel
set_option maxRecDepth 20000 in
theorem ggX3_leave_X3_areUnlikeFloes : GoodIn wsX3_leave wsX3_areUnlikeFloes := goodIn_r _ [6, 7, 8, 9, 5, 10, 11, 12, 13, 14, 15, 76, 77, 78, 79, 80, 81, 82, 83, 84, 85, 86, 87, 88, 89, 90, 91, 92, 93, 94, 95, 96, 97, 98, 99, 100] (by decide +kernel) (by decide +kernel)
set_option maxRecDepth 20000 in
theorem gX3_leave_X3_areUnlikeFloes : GoodIn wsX3_leave (wsV RX3 156 RX3 yX3_areUnlikeFloes wsX3_areUnlikeFloes) := goodIn_app (goodIn_of _ (by decide +kernel)) ggX3_leave_X3_areUnlikeFloes
set_option maxRecDepth 20000 in
theorem ggX3_leave_X3_weighLeaving : GoodIn wsX3_leave wsX3_weighLeaving := goodIn_r _ [19, 11, 20, 21, 22, 23, 24, 25, 26, 27, 28, 29, 30, 31, 32, 33, 34, 35, 36, 37, 38, 39, 40, 41, 42, 43, 44, 45, 46, 47, 48, 49, 50, 51, 52, 53, 54, 55, 56, 57, 5, 58, 59, 60, 61, 62, 63, 64, 65, 66, 67, 76, 77, 78, 79, 80, 81, 82, 83, 84, 85, 86, 87, 88, 89, 90, 91, 92, 93, 94, 95, 96, 97, 98, 99, 100] (by decide +kernel) (by decide +kernel)
set_option maxRecDepth 20000 in
theorem gX3_leave_X3_weighLeaving : GoodIn wsX3_leave (wsV RX3 201 RX3 yX3_weighLeaving wsX3_weighLeaving) := goodIn_app (goodIn_of _ (by decide +kernel)) ggX3_leave_X3_weighLeaving
set_option maxRecDepth 20000 in
theorem ggX3_leave_X3_rests : GoodIn wsX3_leave wsX3_rests := goodIn_r _ [71, 72, 73, 74, 5, 75, 20, 76, 77, 78, 79, 80, 81, 82, 83, 84, 85, 86, 87] (by decide +kernel) (by decide +kernel)
set_option maxRecDepth 20000 in
theorem gX3_leave_X3_rests : GoodIn wsX3_leave (wsV RX3 205 RX3 yX3_rests wsX3_rests) := goodIn_app (goodIn_of _ (by decide +kernel)) ggX3_leave_X3_rests
theorem dX3_leave_0 : decode cX3_leave 0 = .ok (.aload_n 0, 1) := by decide +kernel
theorem dX3_leave_1 : decode cX3_leave 1 = .ok (.iload_n 1, 1) := by decide +kernel
theorem dX3_leave_2 : decode cX3_leave 2 = .ok (.iload_n 2, 1) := by decide +kernel
theorem dX3_leave_3 : decode cX3_leave 3 = .ok (.invokevirtual 156, 3) := by decide +kernel
theorem dX3_leave_6 : decode cX3_leave 6 = .ok (.ifCond .eq 8, 3) := by decide +kernel
theorem dX3_leave_9 : decode cX3_leave 9 = .ok (.iload_n 3, 1) := by decide +kernel
theorem dX3_leave_10 : decode cX3_leave 10 = .ok (.iconst (-1), 1) := by decide +kernel
theorem dX3_leave_11 : decode cX3_leave 11 = .ok (.if_icmp .ge 16, 3) := by decide +kernel
theorem dX3_leave_14 : decode cX3_leave 14 = .ok (.aload_n 0, 1) := by decide +kernel
theorem dX3_leave_15 : decode cX3_leave 15 = .ok (.dup, 1) := by decide +kernel
theorem dX3_leave_16 : decode cX3_leave 16 = .ok (.getfield 198, 3) := by decide +kernel
theorem dX3_leave_19 : decode cX3_leave 19 = .ok (.iconst 1, 1) := by decide +kernel
theorem dX3_leave_20 : decode cX3_leave 20 = .ok (.iadd, 1) := by decide +kernel
theorem dX3_leave_21 : decode cX3_leave 21 = .ok (.putfield 198, 3) := by decide +kernel
theorem dX3_leave_24 : decode cX3_leave 24 = .ok (.bipush (-10), 2) := by decide +kernel
theorem dX3_leave_26 : decode cX3_leave 26 = .ok (.ireturn, 1) := by decide +kernel
theorem dX3_leave_27 : decode cX3_leave 27 = .ok (.aload_n 0, 1) := by decide +kernel
theorem dX3_leave_28 : decode cX3_leave 28 = .ok (.iload_n 1, 1) := by decide +kernel
theorem dX3_leave_29 : decode cX3_leave 29 = .ok (.iload_n 2, 1) := by decide +kernel
theorem dX3_leave_30 : decode cX3_leave 30 = .ok (.invokevirtual 201, 3) := by decide +kernel
theorem dX3_leave_33 : decode cX3_leave 33 = .ok (.iconst 0, 1) := by decide +kernel
theorem dX3_leave_34 : decode cX3_leave 34 = .ok (.istore 4, 2) := by decide +kernel
theorem dX3_leave_36 : decode cX3_leave 36 = .ok (.iconst 0, 1) := by decide +kernel
theorem dX3_leave_37 : decode cX3_leave 37 = .ok (.istore 5, 2) := by decide +kernel
theorem dX3_leave_39 : decode cX3_leave 39 = .ok (.iload 5, 2) := by decide +kernel
theorem dX3_leave_41 : decode cX3_leave 41 = .ok (.bipush 36, 2) := by decide +kernel
theorem dX3_leave_43 : decode cX3_leave 43 = .ok (.if_icmp .ge 38, 3) := by decide +kernel
theorem dX3_leave_46 : decode cX3_leave 46 = .ok (.aload_n 0, 1) := by decide +kernel
theorem dX3_leave_47 : decode cX3_leave 47 = .ok (.iload 5, 2) := by decide +kernel
theorem dX3_leave_49 : decode cX3_leave 49 = .ok (.bipush 6, 2) := by decide +kernel
theorem dX3_leave_51 : decode cX3_leave 51 = .ok (.idiv, 1) := by decide +kernel
theorem dX3_leave_52 : decode cX3_leave 52 = .ok (.iload 5, 2) := by decide +kernel
theorem dX3_leave_54 : decode cX3_leave 54 = .ok (.bipush 6, 2) := by decide +kernel
theorem dX3_leave_56 : decode cX3_leave 56 = .ok (.irem, 1) := by decide +kernel
theorem dX3_leave_57 : decode cX3_leave 57 = .ok (.invokevirtual 205, 3) := by decide +kernel
theorem dX3_leave_60 : decode cX3_leave 60 = .ok (.ifCond .eq 15, 3) := by decide +kernel
theorem dX3_leave_63 : decode cX3_leave 63 = .ok (.iload 4, 2) := by decide +kernel
theorem dX3_leave_65 : decode cX3_leave 65 = .ok (.iload_n 3, 1) := by decide +kernel
theorem dX3_leave_66 : decode cX3_leave 66 = .ok (.if_icmp .ne 6, 3) := by decide +kernel
theorem dX3_leave_69 : decode cX3_leave 69 = .ok (.iload 5, 2) := by decide +kernel
theorem dX3_leave_71 : decode cX3_leave 71 = .ok (.ireturn, 1) := by decide +kernel
theorem dX3_leave_72 : decode cX3_leave 72 = .ok (.iinc 4 1, 3) := by decide +kernel
theorem dX3_leave_75 : decode cX3_leave 75 = .ok (.iinc 5 1, 3) := by decide +kernel
theorem dX3_leave_78 : decode cX3_leave 78 = .ok (.goto (-39), 3) := by decide +kernel
theorem dX3_leave_81 : decode cX3_leave 81 = .ok (.iload_n 3, 1) := by decide +kernel
theorem dX3_leave_82 : decode cX3_leave 82 = .ok (.iconst (-1), 1) := by decide +kernel
theorem dX3_leave_83 : decode cX3_leave 83 = .ok (.if_icmp .ne 8, 3) := by decide +kernel
theorem dX3_leave_86 : decode cX3_leave 86 = .ok (.iload 4, 2) := by decide +kernel
theorem dX3_leave_88 : decode cX3_leave 88 = .ok (.goto 5, 3) := by decide +kernel
theorem dX3_leave_91 : decode cX3_leave 91 = .ok (.bipush (-5), 2) := by decide +kernel
theorem dX3_leave_93 : decode cX3_leave 93 = .ok (.ireturn, 1) := by decide +kernel
set_option maxRecDepth 20000 in
theorem ggX3_calms_X3_isFloe : GoodIn wsX3_calms wsX3_isFloe := goodIn_r _ [11, 2, 12, 13, 14, 10, 15, 69, 70, 71, 72, 73, 74, 75, 76, 77, 78, 79, 80, 81, 82, 83, 84, 85, 86, 87, 88, 89, 90, 91, 92, 93] (by decide +kernel) (by decide +kernel)
set_option maxRecDepth 20000 in
theorem gX3_calms_X3_isFloe : GoodIn wsX3_calms (wsV RX3 114 RX3 yX3_isFloe wsX3_isFloe) := goodIn_app (goodIn_of _ (by decide +kernel)) ggX3_calms_X3_isFloe
set_option maxRecDepth 20000 in
theorem ggX3_calms_X3_within : GoodIn wsX3_calms wsX3_within := goodIn_r _ [15] (by decide +kernel) (by decide +kernel)
set_option maxRecDepth 20000 in
theorem gX3_calms_X3_within : GoodIn wsX3_calms (va_wsS RX3 45 yX3_within wsX3_within) := goodIn_app (goodIn_of _ (by decide +kernel)) ggX3_calms_X3_within
set_option maxRecDepth 20000 in
theorem ggX3_calms_X3_refuseBad : GoodIn wsX3_calms wsX3_refuseBad := goodIn_r _ [19, 20, 69, 70, 71, 72, 73, 74, 75, 76, 77, 78, 79, 80] (by decide +kernel) (by decide +kernel)
set_option maxRecDepth 20000 in
theorem gX3_calms_X3_refuseBad : GoodIn wsX3_calms (wsV RX3 49 RX3 yX3_refuseBad wsX3_refuseBad) := goodIn_app (goodIn_of _ (by decide +kernel)) ggX3_calms_X3_refuseBad
set_option maxRecDepth 20000 in
theorem ggX3_calms_J7_fill_d0a16 : GoodIn wsX3_calms wsJ7_fill_d0a16 := goodIn_r _ [24] (by decide +kernel) (by decide +kernel)
set_option maxRecDepth 20000 in
theorem gX3_calms_J7_fill_d0a16 : GoodIn wsX3_calms (va_wsS RX3 208 yJ7_fill_d0a16 wsJ7_fill_d0a16) := goodIn_app (goodIn_of _ (by decide +kernel)) ggX3_calms_J7_fill_d0a16
set_option maxRecDepth 20000 in
theorem ggX3_calms_X3_driftOdds : GoodIn wsX3_calms wsX3_driftOdds := goodIn_r _ [28, 29, 2, 30, 1, 31, 32, 33, 34, 21, 22, 23, 24, 35, 36, 37, 38, 39, 40, 41, 42, 43, 44, 45, 46, 47, 48, 49, 50, 51, 52, 53, 54, 55, 56, 57, 58, 59, 69, 70, 71, 72, 73, 74, 75, 76, 77, 78, 79, 80, 81, 82, 83, 84, 85, 86, 87, 88, 89, 90, 91, 92, 93] (by decide +kernel) (by decide +kernel)
set_option maxRecDepth 20000 in
theorem gX3_calms_X3_driftOdds : GoodIn wsX3_calms (wsV RX3 214 RX3 yX3_driftOdds wsX3_driftOdds) := goodIn_app (goodIn_of _ (by decide +kernel)) ggX3_calms_X3_driftOdds
set_option maxRecDepth 20000 in
theorem ggX3_calms_X3_setFraction : GoodIn wsX3_calms wsX3_setFraction := goodIn_r _ [63, 64, 65, 66, 67, 10, 68, 69, 70, 71, 72, 73, 74, 75, 76, 77, 78, 79, 80] (by decide +kernel) (by decide +kernel)
set_option maxRecDepth 20000 in
theorem gX3_calms_X3_setFraction : GoodIn wsX3_calms (wsV RX3 219 RX3 yX3_setFraction wsX3_setFraction) := goodIn_app (goodIn_of _ (by decide +kernel)) ggX3_calms_X3_setFraction
theorem dX3_calms_0 : decode cX3_calms 0 = .ok (.aload_n 0, 1) := by decide +kernel
theorem dX3_calms_1 : decode cX3_calms 1 = .ok (.iload_n 1, 1) := by decide +kernel
theorem dX3_calms_2 : decode cX3_calms 2 = .ok (.invokevirtual 114, 3) := by decide +kernel
theorem dX3_calms_5 : decode cX3_calms 5 = .ok (.ifCond .eq 23, 3) := by decide +kernel
theorem dX3_calms_8 : decode cX3_calms 8 = .ok (.iload_n 2, 1) := by decide +kernel
theorem dX3_calms_9 : decode cX3_calms 9 = .ok (.iconst 0, 1) := by decide +kernel
theorem dX3_calms_10 : decode cX3_calms 10 = .ok (.bipush 8, 2) := by decide +kernel
theorem dX3_calms_12 : decode cX3_calms 12 = .ok (.invokestatic 45, 3) := by decide +kernel
theorem dX3_calms_15 : decode cX3_calms 15 = .ok (.ifCond .eq 13, 3) := by decide +kernel
theorem dX3_calms_18 : decode cX3_calms 18 = .ok (.iload_n 3, 1) := by decide +kernel
theorem dX3_calms_19 : decode cX3_calms 19 = .ok (.iconst 0, 1) := by decide +kernel
theorem dX3_calms_20 : decode cX3_calms 20 = .ok (.bipush 10, 2) := by decide +kernel
theorem dX3_calms_22 : decode cX3_calms 22 = .ok (.invokestatic 45, 3) := by decide +kernel
theorem dX3_calms_25 : decode cX3_calms 25 = .ok (.ifCond .ne 8, 3) := by decide +kernel
theorem dX3_calms_28 : decode cX3_calms 28 = .ok (.aload_n 0, 1) := by decide +kernel
theorem dX3_calms_29 : decode cX3_calms 29 = .ok (.invokevirtual 49, 3) := by decide +kernel
theorem dX3_calms_32 : decode cX3_calms 32 = .ok (.ireturn, 1) := by decide +kernel
theorem dX3_calms_33 : decode cX3_calms 33 = .ok (.aload_n 0, 1) := by decide +kernel
theorem dX3_calms_34 : decode cX3_calms 34 = .ok (.getfield 30, 3) := by decide +kernel
theorem dX3_calms_37 : decode cX3_calms 37 = .ok (.lconst 0, 1) := by decide +kernel
theorem dX3_calms_38 : decode cX3_calms 38 = .ok (.invokestatic 208, 3) := by decide +kernel
theorem dX3_calms_41 : decode cX3_calms 41 = .ok (.aload_n 0, 1) := by decide +kernel
theorem dX3_calms_42 : decode cX3_calms 42 = .ok (.getfield 30, 3) := by decide +kernel
theorem dX3_calms_45 : decode cX3_calms 45 = .ok (.aload_n 0, 1) := by decide +kernel
theorem dX3_calms_46 : decode cX3_calms 46 = .ok (.getfield 10, 3) := by decide +kernel
theorem dX3_calms_49 : decode cX3_calms 49 = .ok (.getfield 126, 3) := by decide +kernel
theorem dX3_calms_52 : decode cX3_calms 52 = .ok (.iload_n 1, 1) := by decide +kernel
theorem dX3_calms_53 : decode cX3_calms 53 = .ok (.iaload, 1) := by decide +kernel
theorem dX3_calms_54 : decode cX3_calms 54 = .ok (.lconst 1, 1) := by decide +kernel
theorem dX3_calms_55 : decode cX3_calms 55 = .ok (.lastore, 1) := by decide +kernel
theorem dX3_calms_56 : decode cX3_calms 56 = .ok (.lconst 1, 1) := by decide +kernel
theorem dX3_calms_57 : decode cX3_calms 57 = .ok (.lstore 4, 2) := by decide +kernel
theorem dX3_calms_59 : decode cX3_calms 59 = .ok (.iconst 0, 1) := by decide +kernel
theorem dX3_calms_60 : decode cX3_calms 60 = .ok (.istore 6, 2) := by decide +kernel
theorem dX3_calms_62 : decode cX3_calms 62 = .ok (.iload 6, 2) := by decide +kernel
theorem dX3_calms_64 : decode cX3_calms 64 = .ok (.iload_n 2, 1) := by decide +kernel
theorem dX3_calms_65 : decode cX3_calms 65 = .ok (.if_icmp .ge 41, 3) := by decide +kernel
theorem dX3_calms_68 : decode cX3_calms 68 = .ok (.aload_n 0, 1) := by decide +kernel
theorem dX3_calms_69 : decode cX3_calms 69 = .ok (.aload_n 0, 1) := by decide +kernel
theorem dX3_calms_70 : decode cX3_calms 70 = .ok (.getfield 10, 3) := by decide +kernel
theorem dX3_calms_73 : decode cX3_calms 73 = .ok (.getfield 141, 3) := by decide +kernel
theorem dX3_calms_76 : decode cX3_calms 76 = .ok (.iload_n 1, 1) := by decide +kernel
theorem dX3_calms_77 : decode cX3_calms 77 = .ok (.iaload, 1) := by decide +kernel
theorem dX3_calms_78 : decode cX3_calms 78 = .ok (.aload_n 0, 1) := by decide +kernel
theorem dX3_calms_79 : decode cX3_calms 79 = .ok (.getfield 10, 3) := by decide +kernel
theorem dX3_calms_82 : decode cX3_calms 82 = .ok (.getfield 138, 3) := by decide +kernel
theorem dX3_calms_85 : decode cX3_calms 85 = .ok (.iload 6, 2) := by decide +kernel
theorem dX3_calms_87 : decode cX3_calms 87 = .ok (.iadd, 1) := by decide +kernel
theorem dX3_calms_88 : decode cX3_calms 88 = .ok (.iload_n 3, 1) := by decide +kernel
theorem dX3_calms_89 : decode cX3_calms 89 = .ok (.invokevirtual 214, 3) := by decide +kernel
theorem dX3_calms_92 : decode cX3_calms 92 = .ok (.lload 4, 2) := by decide +kernel
theorem dX3_calms_94 : decode cX3_calms 94 = .ok (.ldc2_w 217, 3) := by decide +kernel
theorem dX3_calms_97 : decode cX3_calms 97 = .ok (.lmul, 1) := by decide +kernel
theorem dX3_calms_98 : decode cX3_calms 98 = .ok (.lstore 4, 2) := by decide +kernel
theorem dX3_calms_100 : decode cX3_calms 100 = .ok (.iinc 6 1, 3) := by decide +kernel
theorem dX3_calms_103 : decode cX3_calms 103 = .ok (.goto (-41), 3) := by decide +kernel
theorem dX3_calms_106 : decode cX3_calms 106 = .ok (.lconst 0, 1) := by decide +kernel
theorem dX3_calms_107 : decode cX3_calms 107 = .ok (.lstore 6, 2) := by decide +kernel
theorem dX3_calms_109 : decode cX3_calms 109 = .ok (.iconst 5, 1) := by decide +kernel
theorem dX3_calms_110 : decode cX3_calms 110 = .ok (.istore 8, 2) := by decide +kernel
theorem dX3_calms_112 : decode cX3_calms 112 = .ok (.iload 8, 2) := by decide +kernel
theorem dX3_calms_114 : decode cX3_calms 114 = .ok (.bipush 36, 2) := by decide +kernel
theorem dX3_calms_116 : decode cX3_calms 116 = .ok (.if_icmp .ge 21, 3) := by decide +kernel
theorem dX3_calms_119 : decode cX3_calms 119 = .ok (.lload 6, 2) := by decide +kernel
theorem dX3_calms_121 : decode cX3_calms 121 = .ok (.aload_n 0, 1) := by decide +kernel
theorem dX3_calms_122 : decode cX3_calms 122 = .ok (.getfield 30, 3) := by decide +kernel
theorem dX3_calms_125 : decode cX3_calms 125 = .ok (.iload 8, 2) := by decide +kernel
theorem dX3_calms_127 : decode cX3_calms 127 = .ok (.laload, 1) := by decide +kernel
theorem dX3_calms_128 : decode cX3_calms 128 = .ok (.ladd, 1) := by decide +kernel
theorem dX3_calms_129 : decode cX3_calms 129 = .ok (.lstore 6, 2) := by decide +kernel
theorem dX3_calms_131 : decode cX3_calms 131 = .ok (.iinc 8 6, 3) := by decide +kernel
theorem dX3_calms_134 : decode cX3_calms 134 = .ok (.goto (-22), 3) := by decide +kernel
theorem dX3_calms_137 : decode cX3_calms 137 = .ok (.aload_n 0, 1) := by decide +kernel
theorem dX3_calms_138 : decode cX3_calms 138 = .ok (.lload 6, 2) := by decide +kernel
theorem dX3_calms_140 : decode cX3_calms 140 = .ok (.lload 4, 2) := by decide +kernel
theorem dX3_calms_142 : decode cX3_calms 142 = .ok (.invokevirtual 219, 3) := by decide +kernel
theorem dX3_calms_145 : decode cX3_calms 145 = .ok (.iconst 1, 1) := by decide +kernel
theorem dX3_calms_146 : decode cX3_calms 146 = .ok (.ireturn, 1) := by decide +kernel
set_option maxRecDepth 20000 in
theorem ggX3_years_X3_within : GoodIn wsX3_years wsX3_within := goodIn_r _ [7] (by decide +kernel) (by decide +kernel)
set_option maxRecDepth 20000 in
theorem gX3_years_X3_within : GoodIn wsX3_years (va_wsS RX3 45 yX3_within wsX3_within) := goodIn_app (goodIn_of _ (by decide +kernel)) ggX3_years_X3_within
set_option maxRecDepth 20000 in
theorem ggX3_years_X3_refuseBad : GoodIn wsX3_years wsX3_refuseBad := goodIn_r _ [11, 12, 47, 48, 49, 50, 51, 52, 53, 54, 55, 56, 57, 58] (by decide +kernel) (by decide +kernel)
set_option maxRecDepth 20000 in
theorem gX3_years_X3_refuseBad : GoodIn wsX3_years (wsV RX3 49 RX3 yX3_refuseBad wsX3_refuseBad) := goodIn_app (goodIn_of _ (by decide +kernel)) ggX3_years_X3_refuseBad
set_option maxRecDepth 20000 in
theorem ggX3_years_X1_cellBySeed : GoodIn wsX3_years wsX1_cellBySeed := goodIn_r _ [17, 18, 19, 20, 21, 22, 23, 24, 25, 26, 27, 28, 29, 30, 31, 32, 33, 34, 35, 36, 37, 38, 39, 40, 41, 42, 43, 59, 60, 61, 62, 63, 64, 65, 66, 67, 68, 69, 70, 71] (by decide +kernel) (by decide +kernel)
set_option maxRecDepth 20000 in
theorem gX3_years_X1_cellBySeed : GoodIn wsX3_years (wsV RX3 224 RX1 yX1_cellBySeed wsX1_cellBySeed) := goodIn_app (goodIn_of _ (by decide +kernel)) ggX3_years_X1_cellBySeed
set_option maxRecDepth 20000 in
theorem ggX3_years_X3_isOut : GoodIn wsX3_years wsX3_isOut := goodIn_r _ [46] (by decide +kernel) (by decide +kernel)
set_option maxRecDepth 20000 in
theorem gX3_years_X3_isOut : GoodIn wsX3_years (va_wsS RX3 144 yX3_isOut wsX3_isOut) := goodIn_app (goodIn_of _ (by decide +kernel)) ggX3_years_X3_isOut
theorem dX3_years_0 : decode cX3_years 0 = .ok (.iload_n 1, 1) := by decide +kernel
theorem dX3_years_1 : decode cX3_years 1 = .ok (.iconst 0, 1) := by decide +kernel
theorem dX3_years_2 : decode cX3_years 2 = .ok (.ldc 223, 2) := by decide +kernel
theorem dX3_years_4 : decode cX3_years 4 = .ok (.invokestatic 45, 3) := by decide +kernel
theorem dX3_years_7 : decode cX3_years 7 = .ok (.ifCond .eq 13, 3) := by decide +kernel
theorem dX3_years_10 : decode cX3_years 10 = .ok (.iload_n 2, 1) := by decide +kernel
theorem dX3_years_11 : decode cX3_years 11 = .ok (.iconst 0, 1) := by decide +kernel
theorem dX3_years_12 : decode cX3_years 12 = .ok (.bipush 60, 2) := by decide +kernel
theorem dX3_years_14 : decode cX3_years 14 = .ok (.invokestatic 45, 3) := by decide +kernel
theorem dX3_years_17 : decode cX3_years 17 = .ok (.ifCond .ne 8, 3) := by decide +kernel
theorem dX3_years_20 : decode cX3_years 20 = .ok (.aload_n 0, 1) := by decide +kernel
theorem dX3_years_21 : decode cX3_years 21 = .ok (.invokevirtual 49, 3) := by decide +kernel
theorem dX3_years_24 : decode cX3_years 24 = .ok (.ireturn, 1) := by decide +kernel
theorem dX3_years_25 : decode cX3_years 25 = .ok (.iconst 0, 1) := by decide +kernel
theorem dX3_years_26 : decode cX3_years 26 = .ok (.istore_n 3, 1) := by decide +kernel
theorem dX3_years_27 : decode cX3_years 27 = .ok (.iconst 0, 1) := by decide +kernel
theorem dX3_years_28 : decode cX3_years 28 = .ok (.istore 4, 2) := by decide +kernel
theorem dX3_years_30 : decode cX3_years 30 = .ok (.iload 4, 2) := by decide +kernel
theorem dX3_years_32 : decode cX3_years 32 = .ok (.aload_n 0, 1) := by decide +kernel
theorem dX3_years_33 : decode cX3_years 33 = .ok (.getfield 10, 3) := by decide +kernel
theorem dX3_years_36 : decode cX3_years 36 = .ok (.getfield 53, 3) := by decide +kernel
theorem dX3_years_39 : decode cX3_years 39 = .ok (.if_icmp .ge 29, 3) := by decide +kernel
theorem dX3_years_42 : decode cX3_years 42 = .ok (.aload_n 0, 1) := by decide +kernel
theorem dX3_years_43 : decode cX3_years 43 = .ok (.getfield 10, 3) := by decide +kernel
theorem dX3_years_46 : decode cX3_years 46 = .ok (.iload 4, 2) := by decide +kernel
theorem dX3_years_48 : decode cX3_years 48 = .ok (.iload_n 1, 1) := by decide +kernel
theorem dX3_years_49 : decode cX3_years 49 = .ok (.iload_n 2, 1) := by decide +kernel
theorem dX3_years_50 : decode cX3_years 50 = .ok (.invokevirtual 224, 3) := by decide +kernel
theorem dX3_years_53 : decode cX3_years 53 = .ok (.invokestatic 144, 3) := by decide +kernel
theorem dX3_years_56 : decode cX3_years 56 = .ok (.ifCond .eq 6, 3) := by decide +kernel
theorem dX3_years_59 : decode cX3_years 59 = .ok (.iinc 3 1, 3) := by decide +kernel
theorem dX3_years_62 : decode cX3_years 62 = .ok (.iinc 4 1, 3) := by decide +kernel
theorem dX3_years_65 : decode cX3_years 65 = .ok (.goto (-35), 3) := by decide +kernel
theorem dX3_years_68 : decode cX3_years 68 = .ok (.iload_n 3, 1) := by decide +kernel
theorem dX3_years_69 : decode cX3_years 69 = .ok (.ireturn, 1) := by decide +kernel
set_option maxRecDepth 20000 in
theorem ggX3_part_X3_isFirstOrSecond : GoodIn wsX3_part wsX3_isFirstOrSecond := goodIn_r _ [6, 7, 8, 5, 9] (by decide +kernel) (by decide +kernel)
set_option maxRecDepth 20000 in
theorem gX3_part_X3_isFirstOrSecond : GoodIn wsX3_part (va_wsS RX3 159 yX3_isFirstOrSecond wsX3_isFirstOrSecond) := goodIn_app (goodIn_of _ (by decide +kernel)) ggX3_part_X3_isFirstOrSecond
set_option maxRecDepth 20000 in
theorem ggX3_part_X3_refuseBad : GoodIn wsX3_part wsX3_refuseBad := goodIn_r _ [13, 14, 15, 16, 17, 18, 19, 20, 21, 22, 23, 24, 25, 26] (by decide +kernel) (by decide +kernel)
set_option maxRecDepth 20000 in
theorem gX3_part_X3_refuseBad : GoodIn wsX3_part (wsV RX3 49 RX3 yX3_refuseBad wsX3_refuseBad) := goodIn_app (goodIn_of _ (by decide +kernel)) ggX3_part_X3_refuseBad
theorem dX3_part_0 : decode cX3_part 0 = .ok (.iload_n 1, 1) := by decide +kernel
theorem dX3_part_1 : decode cX3_part 1 = .ok (.invokestatic 159, 3) := by decide +kernel
theorem dX3_part_4 : decode cX3_part 4 = .ok (.ifCond .ne 9, 3) := by decide +kernel
theorem dX3_part_7 : decode cX3_part 7 = .ok (.aload_n 0, 1) := by decide +kernel
theorem dX3_part_8 : decode cX3_part 8 = .ok (.invokevirtual 49, 3) := by decide +kernel
theorem dX3_part_11 : decode cX3_part 11 = .ok (.i2l, 1) := by decide +kernel
theorem dX3_part_12 : decode cX3_part 12 = .ok (.lreturn, 1) := by decide +kernel
theorem dX3_part_13 : decode cX3_part 13 = .ok (.iload_n 1, 1) := by decide +kernel
theorem dX3_part_14 : decode cX3_part 14 = .ok (.ifCond .ne 10, 3) := by decide +kernel
theorem dX3_part_17 : decode cX3_part 17 = .ok (.aload_n 0, 1) := by decide +kernel
theorem dX3_part_18 : decode cX3_part 18 = .ok (.getfield 227, 3) := by decide +kernel
theorem dX3_part_21 : decode cX3_part 21 = .ok (.goto 7, 3) := by decide +kernel
theorem dX3_part_24 : decode cX3_part 24 = .ok (.aload_n 0, 1) := by decide +kernel
theorem dX3_part_25 : decode cX3_part 25 = .ok (.getfield 41, 3) := by decide +kernel
theorem dX3_part_28 : decode cX3_part 28 = .ok (.lreturn, 1) := by decide +kernel
set_option maxRecDepth 20000 in
theorem ggX3_image_X3_within : GoodIn wsX3_image wsX3_within := goodIn_r _ [9] (by decide +kernel) (by decide +kernel)
set_option maxRecDepth 20000 in
theorem gX3_image_X3_within : GoodIn wsX3_image (va_wsS RX3 45 yX3_within wsX3_within) := goodIn_app (goodIn_of _ (by decide +kernel)) ggX3_image_X3_within
set_option maxRecDepth 20000 in
theorem ggX3_image_X3_refuseBad : GoodIn wsX3_image wsX3_refuseBad := goodIn_r _ [13, 14, 47, 48, 49, 50, 51, 52, 53, 54, 55, 56, 57, 58] (by decide +kernel) (by decide +kernel)
set_option maxRecDepth 20000 in
theorem gX3_image_X3_refuseBad : GoodIn wsX3_image (wsV RX3 49 RX3 yX3_refuseBad wsX3_refuseBad) := goodIn_app (goodIn_of _ (by decide +kernel)) ggX3_image_X3_refuseBad
set_option maxRecDepth 20000 in
theorem ggX3_image_X1_init : GoodIn wsX3_image wsX1_init := goodIn_r _ [17, 18, 19, 20, 21, 22, 23, 24, 25, 26, 27, 28, 29, 30, 31, 32, 33, 59, 60, 61, 62, 63, 64, 65, 66, 67, 68, 69, 70, 71] (by decide +kernel) (by decide +kernel)
set_option maxRecDepth 20000 in
theorem gX3_image_X1_init : GoodIn wsX3_image (wsX1_init) := ggX3_image_X1_init
set_option maxRecDepth 20000 in
theorem ggX3_image_X1_takeFrom : GoodIn wsX3_image wsX1_takeFrom := goodIn_r _ [37, 38, 22, 39, 40, 41, 42, 23, 43, 24, 25, 26, 44, 27, 45, 28, 46, 29, 59, 60, 61, 62, 63, 64, 65, 66, 67, 68, 69, 70, 71] (by decide +kernel) (by decide +kernel)
set_option maxRecDepth 20000 in
theorem gX3_image_X1_takeFrom : GoodIn wsX3_image (wsV RX3 101 RX1 yX1_takeFrom wsX1_takeFrom) := goodIn_app (goodIn_of _ (by decide +kernel)) ggX3_image_X1_takeFrom
theorem dX3_image_0 : decode cX3_image 0 = .ok (.iload_n 1, 1) := by decide +kernel
theorem dX3_image_1 : decode cX3_image 1 = .ok (.iconst 0, 1) := by decide +kernel
theorem dX3_image_2 : decode cX3_image 2 = .ok (.iconst 1, 1) := by decide +kernel
theorem dX3_image_3 : decode cX3_image 3 = .ok (.invokestatic 45, 3) := by decide +kernel
theorem dX3_image_6 : decode cX3_image 6 = .ok (.ifCond .ne 8, 3) := by decide +kernel
theorem dX3_image_9 : decode cX3_image 9 = .ok (.aload_n 0, 1) := by decide +kernel
theorem dX3_image_10 : decode cX3_image 10 = .ok (.invokevirtual 49, 3) := by decide +kernel
theorem dX3_image_13 : decode cX3_image 13 = .ok (.ireturn, 1) := by decide +kernel
theorem dX3_image_14 : decode cX3_image 14 = .ok (.aload_n 0, 1) := by decide +kernel
theorem dX3_image_15 : decode cX3_image 15 = .ok (.getfield 19, 3) := by decide +kernel
theorem dX3_image_18 : decode cX3_image 18 = .ok (.iload_n 1, 1) := by decide +kernel
theorem dX3_image_19 : decode cX3_image 19 = .ok (.aaload, 1) := by decide +kernel
theorem dX3_image_20 : decode cX3_image 20 = .ok (.ifnonnull 16, 3) := by decide +kernel
theorem dX3_image_23 : decode cX3_image 23 = .ok (.aload_n 0, 1) := by decide +kernel
theorem dX3_image_24 : decode cX3_image 24 = .ok (.getfield 19, 3) := by decide +kernel
theorem dX3_image_27 : decode cX3_image 27 = .ok (.iload_n 1, 1) := by decide +kernel
theorem dX3_image_28 : decode cX3_image 28 = .ok (.new 7, 3) := by decide +kernel
theorem dX3_image_31 : decode cX3_image 31 = .ok (.dup, 1) := by decide +kernel
theorem dX3_image_32 : decode cX3_image 32 = .ok (.invokespecial 9, 3) := by decide +kernel
theorem dX3_image_35 : decode cX3_image 35 = .ok (.aastore, 1) := by decide +kernel
theorem dX3_image_36 : decode cX3_image 36 = .ok (.aload_n 0, 1) := by decide +kernel
theorem dX3_image_37 : decode cX3_image 37 = .ok (.getfield 19, 3) := by decide +kernel
theorem dX3_image_40 : decode cX3_image 40 = .ok (.iload_n 1, 1) := by decide +kernel
theorem dX3_image_41 : decode cX3_image 41 = .ok (.aaload, 1) := by decide +kernel
theorem dX3_image_42 : decode cX3_image 42 = .ok (.aload_n 0, 1) := by decide +kernel
theorem dX3_image_43 : decode cX3_image 43 = .ok (.getfield 10, 3) := by decide +kernel
theorem dX3_image_46 : decode cX3_image 46 = .ok (.invokevirtual 101, 3) := by decide +kernel
theorem dX3_image_49 : decode cX3_image 49 = .ok (.iconst 1, 1) := by decide +kernel
theorem dX3_image_50 : decode cX3_image 50 = .ok (.ireturn, 1) := by decide +kernel
set_option maxRecDepth 20000 in
theorem ggX3_from_X3_within : GoodIn wsX3_from wsX3_within := goodIn_r _ [6] (by decide +kernel) (by decide +kernel)
set_option maxRecDepth 20000 in
theorem gX3_from_X3_within : GoodIn wsX3_from (va_wsS RX3 45 yX3_within wsX3_within) := goodIn_app (goodIn_of _ (by decide +kernel)) ggX3_from_X3_within
set_option maxRecDepth 20000 in
theorem ggX3_from_X3_refuseBad : GoodIn wsX3_from wsX3_refuseBad := goodIn_r _ [10, 11, 39, 40, 41, 42, 43, 44, 45, 46, 47, 48, 49, 50] (by decide +kernel) (by decide +kernel)
set_option maxRecDepth 20000 in
theorem gX3_from_X3_refuseBad : GoodIn wsX3_from (wsV RX3 49 RX3 yX3_refuseBad wsX3_refuseBad) := goodIn_app (goodIn_of _ (by decide +kernel)) ggX3_from_X3_refuseBad
set_option maxRecDepth 20000 in
theorem ggX3_from_X3_refuseNo : GoodIn wsX3_from wsX3_refuseNo := goodIn_r _ [15, 16, 39, 40, 41, 42, 43, 44, 45, 46, 47, 48, 49, 50] (by decide +kernel) (by decide +kernel)
set_option maxRecDepth 20000 in
theorem gX3_from_X3_refuseNo : GoodIn wsX3_from (wsV RX3 132 RX3 yX3_refuseNo wsX3_refuseNo) := goodIn_app (goodIn_of _ (by decide +kernel)) ggX3_from_X3_refuseNo
set_option maxRecDepth 20000 in
theorem ggX3_from_X1_takeFrom : GoodIn wsX3_from wsX1_takeFrom := goodIn_r _ [21, 22, 23, 24, 25, 26, 27, 28, 29, 30, 31, 32, 33, 34, 35, 36, 37, 38, 51, 52, 53, 54, 55, 56, 57, 58, 59, 60, 61, 62, 63] (by decide +kernel) (by decide +kernel)
set_option maxRecDepth 20000 in
theorem gX3_from_X1_takeFrom : GoodIn wsX3_from (wsV RX3 101 RX1 yX1_takeFrom wsX1_takeFrom) := goodIn_app (goodIn_of _ (by decide +kernel)) ggX3_from_X1_takeFrom
theorem dX3_from_0 : decode cX3_from 0 = .ok (.iload_n 1, 1) := by decide +kernel
theorem dX3_from_1 : decode cX3_from 1 = .ok (.iconst 0, 1) := by decide +kernel
theorem dX3_from_2 : decode cX3_from 2 = .ok (.iconst 1, 1) := by decide +kernel
theorem dX3_from_3 : decode cX3_from 3 = .ok (.invokestatic 45, 3) := by decide +kernel
theorem dX3_from_6 : decode cX3_from 6 = .ok (.ifCond .ne 8, 3) := by decide +kernel
theorem dX3_from_9 : decode cX3_from 9 = .ok (.aload_n 0, 1) := by decide +kernel
theorem dX3_from_10 : decode cX3_from 10 = .ok (.invokevirtual 49, 3) := by decide +kernel
theorem dX3_from_13 : decode cX3_from 13 = .ok (.ireturn, 1) := by decide +kernel
theorem dX3_from_14 : decode cX3_from 14 = .ok (.aload_n 0, 1) := by decide +kernel
theorem dX3_from_15 : decode cX3_from 15 = .ok (.getfield 19, 3) := by decide +kernel
theorem dX3_from_18 : decode cX3_from 18 = .ok (.iload_n 1, 1) := by decide +kernel
theorem dX3_from_19 : decode cX3_from 19 = .ok (.aaload, 1) := by decide +kernel
theorem dX3_from_20 : decode cX3_from 20 = .ok (.ifnonnull 8, 3) := by decide +kernel
theorem dX3_from_23 : decode cX3_from 23 = .ok (.aload_n 0, 1) := by decide +kernel
theorem dX3_from_24 : decode cX3_from 24 = .ok (.invokevirtual 132, 3) := by decide +kernel
theorem dX3_from_27 : decode cX3_from 27 = .ok (.ireturn, 1) := by decide +kernel
theorem dX3_from_28 : decode cX3_from 28 = .ok (.aload_n 0, 1) := by decide +kernel
theorem dX3_from_29 : decode cX3_from 29 = .ok (.getfield 10, 3) := by decide +kernel
theorem dX3_from_32 : decode cX3_from 32 = .ok (.aload_n 0, 1) := by decide +kernel
theorem dX3_from_33 : decode cX3_from 33 = .ok (.getfield 19, 3) := by decide +kernel
theorem dX3_from_36 : decode cX3_from 36 = .ok (.iload_n 1, 1) := by decide +kernel
theorem dX3_from_37 : decode cX3_from 37 = .ok (.aaload, 1) := by decide +kernel
theorem dX3_from_38 : decode cX3_from 38 = .ok (.invokevirtual 101, 3) := by decide +kernel
theorem dX3_from_41 : decode cX3_from 41 = .ok (.iconst 1, 1) := by decide +kernel
theorem dX3_from_42 : decode cX3_from 42 = .ok (.ireturn, 1) := by decide +kernel
set_option maxRecDepth 20000 in
theorem ggX3_count_X1_floesOut : GoodIn wsX3_count wsX1_floesOut := goodIn_r _ [13, 14, 15, 16, 17, 18, 36, 37, 38, 39, 40, 41, 42, 43, 44, 45, 46, 47, 48] (by decide +kernel) (by decide +kernel)
set_option maxRecDepth 20000 in
theorem gX3_count_X1_floesOut : GoodIn wsX3_count (wsV RX3 111 RX1 yX1_floesOut wsX1_floesOut) := goodIn_app (goodIn_of _ (by decide +kernel)) ggX3_count_X1_floesOut
set_option maxRecDepth 20000 in
theorem ggX3_count_X3_refuseBad : GoodIn wsX3_count wsX3_refuseBad := goodIn_r _ [22, 23, 24, 25, 26, 27, 28, 29, 30, 31, 32, 33, 34, 35] (by decide +kernel) (by decide +kernel)
set_option maxRecDepth 20000 in
theorem gX3_count_X3_refuseBad : GoodIn wsX3_count (wsV RX3 49 RX3 yX3_refuseBad wsX3_refuseBad) := goodIn_app (goodIn_of _ (by decide +kernel)) ggX3_count_X3_refuseBad
theorem dX3_count_0 : decode cX3_count 0 = .ok (.iload_n 1, 1) := by decide +kernel
theorem dX3_count_1 : decode cX3_count 1 = .ok (.tableswitch 99 0 6 #[43, 51, 59, 67, 75, 83, 91], 43) := by decide +kernel
theorem dX3_count_44 : decode cX3_count 44 = .ok (.aload_n 0, 1) := by decide +kernel
theorem dX3_count_45 : decode cX3_count 45 = .ok (.getfield 10, 3) := by decide +kernel
theorem dX3_count_48 : decode cX3_count 48 = .ok (.getfield 53, 3) := by decide +kernel
theorem dX3_count_51 : decode cX3_count 51 = .ok (.ireturn, 1) := by decide +kernel
theorem dX3_count_52 : decode cX3_count 52 = .ok (.aload_n 0, 1) := by decide +kernel
theorem dX3_count_53 : decode cX3_count 53 = .ok (.getfield 10, 3) := by decide +kernel
theorem dX3_count_56 : decode cX3_count 56 = .ok (.getfield 138, 3) := by decide +kernel
theorem dX3_count_59 : decode cX3_count 59 = .ok (.ireturn, 1) := by decide +kernel
theorem dX3_count_60 : decode cX3_count 60 = .ok (.aload_n 0, 1) := by decide +kernel
theorem dX3_count_61 : decode cX3_count 61 = .ok (.getfield 10, 3) := by decide +kernel
theorem dX3_count_64 : decode cX3_count 64 = .ok (.invokevirtual 111, 3) := by decide +kernel
theorem dX3_count_67 : decode cX3_count 67 = .ok (.ireturn, 1) := by decide +kernel
theorem dX3_count_68 : decode cX3_count 68 = .ok (.aload_n 0, 1) := by decide +kernel
theorem dX3_count_69 : decode cX3_count 69 = .ok (.getfield 10, 3) := by decide +kernel
theorem dX3_count_72 : decode cX3_count 72 = .ok (.getfield 176, 3) := by decide +kernel
theorem dX3_count_75 : decode cX3_count 75 = .ok (.ireturn, 1) := by decide +kernel
theorem dX3_count_76 : decode cX3_count 76 = .ok (.aload_n 0, 1) := by decide +kernel
theorem dX3_count_77 : decode cX3_count 77 = .ok (.getfield 10, 3) := by decide +kernel
theorem dX3_count_80 : decode cX3_count 80 = .ok (.getfield 185, 3) := by decide +kernel
theorem dX3_count_83 : decode cX3_count 83 = .ok (.ireturn, 1) := by decide +kernel
theorem dX3_count_84 : decode cX3_count 84 = .ok (.aload_n 0, 1) := by decide +kernel
theorem dX3_count_85 : decode cX3_count 85 = .ok (.getfield 10, 3) := by decide +kernel
theorem dX3_count_88 : decode cX3_count 88 = .ok (.getfield 129, 3) := by decide +kernel
theorem dX3_count_91 : decode cX3_count 91 = .ok (.ireturn, 1) := by decide +kernel
theorem dX3_count_92 : decode cX3_count 92 = .ok (.aload_n 0, 1) := by decide +kernel
theorem dX3_count_93 : decode cX3_count 93 = .ok (.getfield 26, 3) := by decide +kernel
theorem dX3_count_96 : decode cX3_count 96 = .ok (.getfield 88, 3) := by decide +kernel
theorem dX3_count_99 : decode cX3_count 99 = .ok (.ireturn, 1) := by decide +kernel
theorem dX3_count_100 : decode cX3_count 100 = .ok (.aload_n 0, 1) := by decide +kernel
theorem dX3_count_101 : decode cX3_count 101 = .ok (.invokevirtual 49, 3) := by decide +kernel
theorem dX3_count_104 : decode cX3_count 104 = .ok (.ireturn, 1) := by decide +kernel
theorem dX3_refuseBad_0 : decode cX3_refuseBad 0 = .ok (.aload_n 0, 1) := by decide +kernel
theorem dX3_refuseBad_1 : decode cX3_refuseBad 1 = .ok (.dup, 1) := by decide +kernel
theorem dX3_refuseBad_2 : decode cX3_refuseBad 2 = .ok (.getfield 198, 3) := by decide +kernel
theorem dX3_refuseBad_5 : decode cX3_refuseBad 5 = .ok (.iconst 1, 1) := by decide +kernel
theorem dX3_refuseBad_6 : decode cX3_refuseBad 6 = .ok (.iadd, 1) := by decide +kernel
theorem dX3_refuseBad_7 : decode cX3_refuseBad 7 = .ok (.putfield 198, 3) := by decide +kernel
theorem dX3_refuseBad_10 : decode cX3_refuseBad 10 = .ok (.bipush (-2), 2) := by decide +kernel
theorem dX3_refuseBad_12 : decode cX3_refuseBad 12 = .ok (.ireturn, 1) := by decide +kernel
theorem dX3_refuseNo_0 : decode cX3_refuseNo 0 = .ok (.aload_n 0, 1) := by decide +kernel
theorem dX3_refuseNo_1 : decode cX3_refuseNo 1 = .ok (.dup, 1) := by decide +kernel
theorem dX3_refuseNo_2 : decode cX3_refuseNo 2 = .ok (.getfield 230, 3) := by decide +kernel
theorem dX3_refuseNo_5 : decode cX3_refuseNo 5 = .ok (.iconst 1, 1) := by decide +kernel
theorem dX3_refuseNo_6 : decode cX3_refuseNo 6 = .ok (.iadd, 1) := by decide +kernel
theorem dX3_refuseNo_7 : decode cX3_refuseNo 7 = .ok (.putfield 230, 3) := by decide +kernel
theorem dX3_refuseNo_10 : decode cX3_refuseNo 10 = .ok (.bipush (-3), 2) := by decide +kernel
theorem dX3_refuseNo_12 : decode cX3_refuseNo 12 = .ok (.ireturn, 1) := by decide +kernel
theorem dX3_refuseFull_0 : decode cX3_refuseFull 0 = .ok (.aload_n 0, 1) := by decide +kernel
theorem dX3_refuseFull_1 : decode cX3_refuseFull 1 = .ok (.dup, 1) := by decide +kernel
theorem dX3_refuseFull_2 : decode cX3_refuseFull 2 = .ok (.getfield 233, 3) := by decide +kernel
theorem dX3_refuseFull_5 : decode cX3_refuseFull 5 = .ok (.iconst 1, 1) := by decide +kernel
theorem dX3_refuseFull_6 : decode cX3_refuseFull 6 = .ok (.iadd, 1) := by decide +kernel
theorem dX3_refuseFull_7 : decode cX3_refuseFull 7 = .ok (.putfield 233, 3) := by decide +kernel
theorem dX3_refuseFull_10 : decode cX3_refuseFull 10 = .ok (.bipush (-4), 2) := by decide +kernel
theorem dX3_refuseFull_12 : decode cX3_refuseFull 12 = .ok (.ireturn, 1) := by decide +kernel
set_option maxRecDepth 20000 in
theorem ggX3_isFloe_X3_within : GoodIn wsX3_isFloe wsX3_within := goodIn_r _ [6] (by decide +kernel) (by decide +kernel)
set_option maxRecDepth 20000 in
theorem gX3_isFloe_X3_within : GoodIn wsX3_isFloe (va_wsS RX3 45 yX3_within wsX3_within) := goodIn_app (goodIn_of _ (by decide +kernel)) ggX3_isFloe_X3_within
theorem dX3_isFloe_0 : decode cX3_isFloe 0 = .ok (.iload_n 1, 1) := by decide +kernel
theorem dX3_isFloe_1 : decode cX3_isFloe 1 = .ok (.iconst 0, 1) := by decide +kernel
theorem dX3_isFloe_2 : decode cX3_isFloe 2 = .ok (.aload_n 0, 1) := by decide +kernel
theorem dX3_isFloe_3 : decode cX3_isFloe 3 = .ok (.getfield 10, 3) := by decide +kernel
theorem dX3_isFloe_6 : decode cX3_isFloe 6 = .ok (.getfield 53, 3) := by decide +kernel
theorem dX3_isFloe_9 : decode cX3_isFloe 9 = .ok (.iconst 1, 1) := by decide +kernel
theorem dX3_isFloe_10 : decode cX3_isFloe 10 = .ok (.isub, 1) := by decide +kernel
theorem dX3_isFloe_11 : decode cX3_isFloe 11 = .ok (.invokestatic 45, 3) := by decide +kernel
theorem dX3_isFloe_14 : decode cX3_isFloe 14 = .ok (.ireturn, 1) := by decide +kernel
set_option maxRecDepth 20000 in
theorem ggX3_areUnlikeFloes_X3_isFloe : GoodIn wsX3_areUnlikeFloes wsX3_isFloe := goodIn_r _ [5, 6, 7, 8, 9, 4, 10, 11, 12, 13, 14, 15, 16, 17, 18, 19, 20, 21, 22, 23, 24, 25, 26, 27, 28, 29, 30, 31, 32, 33, 34, 35] (by decide +kernel) (by decide +kernel)
set_option maxRecDepth 20000 in
theorem gX3_areUnlikeFloes_X3_isFloe : GoodIn wsX3_areUnlikeFloes (wsV RX3 114 RX3 yX3_isFloe wsX3_isFloe) := goodIn_app (goodIn_of _ (by decide +kernel)) ggX3_areUnlikeFloes_X3_isFloe
theorem dX3_areUnlikeFloes_0 : decode cX3_areUnlikeFloes 0 = .ok (.aload_n 0, 1) := by decide +kernel
theorem dX3_areUnlikeFloes_1 : decode cX3_areUnlikeFloes 1 = .ok (.iload_n 1, 1) := by decide +kernel
theorem dX3_areUnlikeFloes_2 : decode cX3_areUnlikeFloes 2 = .ok (.invokevirtual 114, 3) := by decide +kernel
theorem dX3_areUnlikeFloes_5 : decode cX3_areUnlikeFloes 5 = .ok (.ifCond .eq 20, 3) := by decide +kernel
theorem dX3_areUnlikeFloes_8 : decode cX3_areUnlikeFloes 8 = .ok (.aload_n 0, 1) := by decide +kernel
theorem dX3_areUnlikeFloes_9 : decode cX3_areUnlikeFloes 9 = .ok (.iload_n 2, 1) := by decide +kernel
theorem dX3_areUnlikeFloes_10 : decode cX3_areUnlikeFloes 10 = .ok (.invokevirtual 114, 3) := by decide +kernel
theorem dX3_areUnlikeFloes_13 : decode cX3_areUnlikeFloes 13 = .ok (.ifCond .eq 12, 3) := by decide +kernel
theorem dX3_areUnlikeFloes_16 : decode cX3_areUnlikeFloes 16 = .ok (.iload_n 1, 1) := by decide +kernel
theorem dX3_areUnlikeFloes_17 : decode cX3_areUnlikeFloes 17 = .ok (.iload_n 2, 1) := by decide +kernel
theorem dX3_areUnlikeFloes_18 : decode cX3_areUnlikeFloes 18 = .ok (.if_icmp .eq 7, 3) := by decide +kernel
theorem dX3_areUnlikeFloes_21 : decode cX3_areUnlikeFloes 21 = .ok (.iconst 1, 1) := by decide +kernel
theorem dX3_areUnlikeFloes_22 : decode cX3_areUnlikeFloes 22 = .ok (.goto 4, 3) := by decide +kernel
theorem dX3_areUnlikeFloes_25 : decode cX3_areUnlikeFloes 25 = .ok (.iconst 0, 1) := by decide +kernel
theorem dX3_areUnlikeFloes_26 : decode cX3_areUnlikeFloes 26 = .ok (.ireturn, 1) := by decide +kernel
theorem dX3_within_0 : decode cX3_within 0 = .ok (.iload_n 0, 1) := by decide +kernel
theorem dX3_within_1 : decode cX3_within 1 = .ok (.iload_n 1, 1) := by decide +kernel
theorem dX3_within_2 : decode cX3_within 2 = .ok (.if_icmp .lt 12, 3) := by decide +kernel
theorem dX3_within_5 : decode cX3_within 5 = .ok (.iload_n 0, 1) := by decide +kernel
theorem dX3_within_6 : decode cX3_within 6 = .ok (.iload_n 2, 1) := by decide +kernel
theorem dX3_within_7 : decode cX3_within 7 = .ok (.if_icmp .gt 7, 3) := by decide +kernel
theorem dX3_within_10 : decode cX3_within 10 = .ok (.iconst 1, 1) := by decide +kernel
theorem dX3_within_11 : decode cX3_within 11 = .ok (.goto 4, 3) := by decide +kernel
theorem dX3_within_14 : decode cX3_within 14 = .ok (.iconst 0, 1) := by decide +kernel
theorem dX3_within_15 : decode cX3_within 15 = .ok (.ireturn, 1) := by decide +kernel
set_option maxRecDepth 20000 in
theorem ggX3_isKind_X3_within : GoodIn wsX3_isKind wsX3_within := goodIn_r _ [4] (by decide +kernel) (by decide +kernel)
set_option maxRecDepth 20000 in
theorem gX3_isKind_X3_within : GoodIn wsX3_isKind (va_wsS RX3 45 yX3_within wsX3_within) := goodIn_app (goodIn_of _ (by decide +kernel)) ggX3_isKind_X3_within
theorem dX3_isKind_0 : decode cX3_isKind 0 = .ok (.iload_n 0, 1) := by decide +kernel
theorem dX3_isKind_1 : decode cX3_isKind 1 = .ok (.iconst 0, 1) := by decide +kernel
theorem dX3_isKind_2 : decode cX3_isKind 2 = .ok (.iconst 5, 1) := by decide +kernel
theorem dX3_isKind_3 : decode cX3_isKind 3 = .ok (.invokestatic 45, 3) := by decide +kernel
theorem dX3_isKind_6 : decode cX3_isKind 6 = .ok (.ireturn, 1) := by decide +kernel
set_option maxRecDepth 20000 in
theorem ggX3_isCell_X3_within : GoodIn wsX3_isCell wsX3_within := goodIn_r _ [4] (by decide +kernel) (by decide +kernel)
set_option maxRecDepth 20000 in
theorem gX3_isCell_X3_within : GoodIn wsX3_isCell (va_wsS RX3 45 yX3_within wsX3_within) := goodIn_app (goodIn_of _ (by decide +kernel)) ggX3_isCell_X3_within
theorem dX3_isCell_0 : decode cX3_isCell 0 = .ok (.iload_n 0, 1) := by decide +kernel
theorem dX3_isCell_1 : decode cX3_isCell 1 = .ok (.iconst 0, 1) := by decide +kernel
theorem dX3_isCell_2 : decode cX3_isCell 2 = .ok (.bipush 35, 2) := by decide +kernel
theorem dX3_isCell_4 : decode cX3_isCell 4 = .ok (.invokestatic 45, 3) := by decide +kernel
theorem dX3_isCell_7 : decode cX3_isCell 7 = .ok (.ireturn, 1) := by decide +kernel
set_option maxRecDepth 20000 in
theorem ggX3_isWind_X3_within : GoodIn wsX3_isWind wsX3_within := goodIn_r _ [4] (by decide +kernel) (by decide +kernel)
set_option maxRecDepth 20000 in
theorem gX3_isWind_X3_within : GoodIn wsX3_isWind (va_wsS RX3 45 yX3_within wsX3_within) := goodIn_app (goodIn_of _ (by decide +kernel)) ggX3_isWind_X3_within
theorem dX3_isWind_0 : decode cX3_isWind 0 = .ok (.iload_n 0, 1) := by decide +kernel
theorem dX3_isWind_1 : decode cX3_isWind 1 = .ok (.iconst 0, 1) := by decide +kernel
theorem dX3_isWind_2 : decode cX3_isWind 2 = .ok (.iconst 3, 1) := by decide +kernel
theorem dX3_isWind_3 : decode cX3_isWind 3 = .ok (.invokestatic 45, 3) := by decide +kernel
theorem dX3_isWind_6 : decode cX3_isWind 6 = .ok (.ifCond .eq 16, 3) := by decide +kernel
theorem dX3_isWind_9 : decode cX3_isWind 9 = .ok (.iload_n 1, 1) := by decide +kernel
theorem dX3_isWind_10 : decode cX3_isWind 10 = .ok (.iconst 0, 1) := by decide +kernel
theorem dX3_isWind_11 : decode cX3_isWind 11 = .ok (.iconst 3, 1) := by decide +kernel
theorem dX3_isWind_12 : decode cX3_isWind 12 = .ok (.invokestatic 45, 3) := by decide +kernel
theorem dX3_isWind_15 : decode cX3_isWind 15 = .ok (.ifCond .eq 7, 3) := by decide +kernel
theorem dX3_isWind_18 : decode cX3_isWind 18 = .ok (.iconst 1, 1) := by decide +kernel
theorem dX3_isWind_19 : decode cX3_isWind 19 = .ok (.goto 4, 3) := by decide +kernel
theorem dX3_isWind_22 : decode cX3_isWind 22 = .ok (.iconst 0, 1) := by decide +kernel
theorem dX3_isWind_23 : decode cX3_isWind 23 = .ok (.ireturn, 1) := by decide +kernel
set_option maxRecDepth 20000 in
theorem ggX3_isFirstOrSecond_X3_within : GoodIn wsX3_isFirstOrSecond wsX3_within := goodIn_r _ [4] (by decide +kernel) (by decide +kernel)
set_option maxRecDepth 20000 in
theorem gX3_isFirstOrSecond_X3_within : GoodIn wsX3_isFirstOrSecond (va_wsS RX3 45 yX3_within wsX3_within) := goodIn_app (goodIn_of _ (by decide +kernel)) ggX3_isFirstOrSecond_X3_within
theorem dX3_isFirstOrSecond_0 : decode cX3_isFirstOrSecond 0 = .ok (.iload_n 0, 1) := by decide +kernel
theorem dX3_isFirstOrSecond_1 : decode cX3_isFirstOrSecond 1 = .ok (.iconst 0, 1) := by decide +kernel
theorem dX3_isFirstOrSecond_2 : decode cX3_isFirstOrSecond 2 = .ok (.iconst 1, 1) := by decide +kernel
theorem dX3_isFirstOrSecond_3 : decode cX3_isFirstOrSecond 3 = .ok (.invokestatic 45, 3) := by decide +kernel
theorem dX3_isFirstOrSecond_6 : decode cX3_isFirstOrSecond 6 = .ok (.ireturn, 1) := by decide +kernel
theorem dX3_isOut_0 : decode cX3_isOut 0 = .ok (.iload_n 0, 1) := by decide +kernel
theorem dX3_isOut_1 : decode cX3_isOut 1 = .ok (.bipush 6, 2) := by decide +kernel
theorem dX3_isOut_3 : decode cX3_isOut 3 = .ok (.irem, 1) := by decide +kernel
theorem dX3_isOut_4 : decode cX3_isOut 4 = .ok (.iconst 5, 1) := by decide +kernel
theorem dX3_isOut_5 : decode cX3_isOut 5 = .ok (.if_icmp .ne 7, 3) := by decide +kernel
theorem dX3_isOut_8 : decode cX3_isOut 8 = .ok (.iconst 1, 1) := by decide +kernel
theorem dX3_isOut_9 : decode cX3_isOut 9 = .ok (.goto 4, 3) := by decide +kernel
theorem dX3_isOut_12 : decode cX3_isOut 12 = .ok (.iconst 0, 1) := by decide +kernel
theorem dX3_isOut_13 : decode cX3_isOut 13 = .ok (.ireturn, 1) := by decide +kernel
theorem dX3_far_0 : decode cX3_far 0 = .ok (.iload_n 0, 1) := by decide +kernel
theorem dX3_far_1 : decode cX3_far 1 = .ok (.bipush 6, 2) := by decide +kernel
theorem dX3_far_3 : decode cX3_far 3 = .ok (.idiv, 1) := by decide +kernel
theorem dX3_far_4 : decode cX3_far 4 = .ok (.iload_n 1, 1) := by decide +kernel
theorem dX3_far_5 : decode cX3_far 5 = .ok (.bipush 6, 2) := by decide +kernel
theorem dX3_far_7 : decode cX3_far 7 = .ok (.idiv, 1) := by decide +kernel
theorem dX3_far_8 : decode cX3_far 8 = .ok (.isub, 1) := by decide +kernel
theorem dX3_far_9 : decode cX3_far 9 = .ok (.invokestatic 247, 3) := by decide +kernel
theorem dX3_far_12 : decode cX3_far 12 = .ok (.iload_n 0, 1) := by decide +kernel
theorem dX3_far_13 : decode cX3_far 13 = .ok (.bipush 6, 2) := by decide +kernel
theorem dX3_far_15 : decode cX3_far 15 = .ok (.irem, 1) := by decide +kernel
theorem dX3_far_16 : decode cX3_far 16 = .ok (.iload_n 1, 1) := by decide +kernel
theorem dX3_far_17 : decode cX3_far 17 = .ok (.bipush 6, 2) := by decide +kernel
theorem dX3_far_19 : decode cX3_far 19 = .ok (.irem, 1) := by decide +kernel
theorem dX3_far_20 : decode cX3_far 20 = .ok (.isub, 1) := by decide +kernel
theorem dX3_far_21 : decode cX3_far 21 = .ok (.invokestatic 247, 3) := by decide +kernel
theorem dX3_far_24 : decode cX3_far 24 = .ok (.iadd, 1) := by decide +kernel
theorem dX3_far_25 : decode cX3_far 25 = .ok (.ireturn, 1) := by decide +kernel
theorem dX3_dogMonths_0 : decode cX3_dogMonths 0 = .ok (.iload_n 0, 1) := by decide +kernel
theorem dX3_dogMonths_1 : decode cX3_dogMonths 1 = .ok (.iconst 2, 1) := by decide +kernel
theorem dX3_dogMonths_2 : decode cX3_dogMonths 2 = .ok (.iadd, 1) := by decide +kernel
theorem dX3_dogMonths_3 : decode cX3_dogMonths 3 = .ok (.iconst 1, 1) := by decide +kernel
theorem dX3_dogMonths_4 : decode cX3_dogMonths 4 = .ok (.isub, 1) := by decide +kernel
theorem dX3_dogMonths_5 : decode cX3_dogMonths 5 = .ok (.iconst 2, 1) := by decide +kernel
theorem dX3_dogMonths_6 : decode cX3_dogMonths 6 = .ok (.idiv, 1) := by decide +kernel
theorem dX3_dogMonths_7 : decode cX3_dogMonths 7 = .ok (.ireturn, 1) := by decide +kernel
set_option maxRecDepth 20000 in
theorem ggX3_dogsAndBack_X1_cellBehind : GoodIn wsX3_dogsAndBack wsX1_cellBehind := goodIn_r _ [6, 7, 8, 9, 10, 11, 12, 5, 13, 14, 15, 16, 17, 18, 19, 20, 21, 22, 23, 24, 25, 26, 27, 28, 29, 30, 31, 32, 33, 34, 35, 36, 59, 60, 61, 62, 63, 64, 65, 66, 67, 68, 69, 70, 71] (by decide +kernel) (by decide +kernel)
set_option maxRecDepth 20000 in
theorem gX3_dogsAndBack_X1_cellBehind : GoodIn wsX3_dogsAndBack (wsV RX3 147 RX1 yX1_cellBehind wsX1_cellBehind) := goodIn_app (goodIn_of _ (by decide +kernel)) ggX3_dogsAndBack_X1_cellBehind
set_option maxRecDepth 20000 in
theorem ggX3_dogsAndBack_X3_far : GoodIn wsX3_dogsAndBack wsX3_far := goodIn_r _ [40, 41, 42, 26, 43] (by decide +kernel) (by decide +kernel)
set_option maxRecDepth 20000 in
theorem gX3_dogsAndBack_X3_far : GoodIn wsX3_dogsAndBack (va_wsS RX3 162 yX3_far wsX3_far) := goodIn_app (goodIn_of _ (by decide +kernel)) ggX3_dogsAndBack_X3_far
set_option maxRecDepth 20000 in
theorem ggX3_dogsAndBack_X3_dogMonths : GoodIn wsX3_dogsAndBack wsX3_dogMonths := goodIn_r _ [46] (by decide +kernel) (by decide +kernel)
set_option maxRecDepth 20000 in
theorem gX3_dogsAndBack_X3_dogMonths : GoodIn wsX3_dogsAndBack (va_wsS RX3 169 yX3_dogMonths wsX3_dogMonths) := goodIn_app (goodIn_of _ (by decide +kernel)) ggX3_dogsAndBack_X3_dogMonths
theorem dX3_dogsAndBack_0 : decode cX3_dogsAndBack 0 = .ok (.iload_n 2, 1) := by decide +kernel
theorem dX3_dogsAndBack_1 : decode cX3_dogsAndBack 1 = .ok (.istore_n 3, 1) := by decide +kernel
theorem dX3_dogsAndBack_2 : decode cX3_dogsAndBack 2 = .ok (.iload_n 3, 1) := by decide +kernel
theorem dX3_dogsAndBack_3 : decode cX3_dogsAndBack 3 = .ok (.bipush 30, 2) := by decide +kernel
theorem dX3_dogsAndBack_5 : decode cX3_dogsAndBack 5 = .ok (.if_icmp .gt 34, 3) := by decide +kernel
theorem dX3_dogsAndBack_8 : decode cX3_dogsAndBack 8 = .ok (.bipush 14, 2) := by decide +kernel
theorem dX3_dogsAndBack_10 : decode cX3_dogsAndBack 10 = .ok (.aload_n 0, 1) := by decide +kernel
theorem dX3_dogsAndBack_11 : decode cX3_dogsAndBack 11 = .ok (.getfield 10, 3) := by decide +kernel
theorem dX3_dogsAndBack_14 : decode cX3_dogsAndBack 14 = .ok (.iload_n 1, 1) := by decide +kernel
theorem dX3_dogsAndBack_15 : decode cX3_dogsAndBack 15 = .ok (.iload_n 3, 1) := by decide +kernel
theorem dX3_dogsAndBack_16 : decode cX3_dogsAndBack 16 = .ok (.invokevirtual 147, 3) := by decide +kernel
theorem dX3_dogsAndBack_19 : decode cX3_dogsAndBack 19 = .ok (.invokestatic 162, 3) := by decide +kernel
theorem dX3_dogsAndBack_22 : decode cX3_dogsAndBack 22 = .ok (.invokestatic 169, 3) := by decide +kernel
theorem dX3_dogsAndBack_25 : decode cX3_dogsAndBack 25 = .ok (.iload_n 3, 1) := by decide +kernel
theorem dX3_dogsAndBack_26 : decode cX3_dogsAndBack 26 = .ok (.iload_n 2, 1) := by decide +kernel
theorem dX3_dogsAndBack_27 : decode cX3_dogsAndBack 27 = .ok (.isub, 1) := by decide +kernel
theorem dX3_dogsAndBack_28 : decode cX3_dogsAndBack 28 = .ok (.if_icmp .gt 5, 3) := by decide +kernel
theorem dX3_dogsAndBack_31 : decode cX3_dogsAndBack 31 = .ok (.iload_n 3, 1) := by decide +kernel
theorem dX3_dogsAndBack_32 : decode cX3_dogsAndBack 32 = .ok (.ireturn, 1) := by decide +kernel
theorem dX3_dogsAndBack_33 : decode cX3_dogsAndBack 33 = .ok (.iinc 3 1, 3) := by decide +kernel
theorem dX3_dogsAndBack_36 : decode cX3_dogsAndBack 36 = .ok (.goto (-34), 3) := by decide +kernel
theorem dX3_dogsAndBack_39 : decode cX3_dogsAndBack 39 = .ok (.iconst (-1), 1) := by decide +kernel
theorem dX3_dogsAndBack_40 : decode cX3_dogsAndBack 40 = .ok (.ireturn, 1) := by decide +kernel
set_option maxRecDepth 20000 in
theorem ggX3_weighLeaving_X1_cellBehind : GoodIn wsX3_weighLeaving wsX1_cellBehind := goodIn_r _ [7, 8, 9, 10, 11, 12, 13, 6, 14, 15, 16, 17, 18, 19, 20, 21, 22, 23, 24, 25, 26, 27, 28, 29, 30, 31, 32, 33, 34, 35, 36, 37, 63, 64, 65, 66, 67, 68, 69, 70, 71, 72, 73, 74, 75] (by decide +kernel) (by decide +kernel)
set_option maxRecDepth 20000 in
theorem gX3_weighLeaving_X1_cellBehind : GoodIn wsX3_weighLeaving (wsV RX3 147 RX1 yX1_cellBehind wsX1_cellBehind) := goodIn_app (goodIn_of _ (by decide +kernel)) ggX3_weighLeaving_X1_cellBehind
set_option maxRecDepth 20000 in
theorem ggX3_weighLeaving_X3_far : GoodIn wsX3_weighLeaving wsX3_far := goodIn_r _ [41, 42, 43, 27, 44] (by decide +kernel) (by decide +kernel)
set_option maxRecDepth 20000 in
theorem gX3_weighLeaving_X3_far : GoodIn wsX3_weighLeaving (va_wsS RX3 162 yX3_far wsX3_far) := goodIn_app (goodIn_of _ (by decide +kernel)) ggX3_weighLeaving_X3_far
set_option maxRecDepth 20000 in
theorem ggX3_weighLeaving_X1_foodBehind : GoodIn wsX3_weighLeaving wsX1_foodBehind := goodIn_r _ [48, 49, 50, 30, 27, 31, 63, 64, 65, 66, 67, 68, 69, 70, 71, 72, 73, 74, 75] (by decide +kernel) (by decide +kernel)
set_option maxRecDepth 20000 in
theorem gX3_weighLeaving_X1_foodBehind : GoodIn wsX3_weighLeaving (wsV RX3 250 RX1 yX1_foodBehind wsX1_foodBehind) := goodIn_app (goodIn_of _ (by decide +kernel)) ggX3_weighLeaving_X1_foodBehind
theorem dX3_weighLeaving_0 : decode cX3_weighLeaving 0 = .ok (.iconst 0, 1) := by decide +kernel
theorem dX3_weighLeaving_1 : decode cX3_weighLeaving 1 = .ok (.istore_n 3, 1) := by decide +kernel
theorem dX3_weighLeaving_2 : decode cX3_weighLeaving 2 = .ok (.iload_n 3, 1) := by decide +kernel
theorem dX3_weighLeaving_3 : decode cX3_weighLeaving 3 = .ok (.bipush 6, 2) := by decide +kernel
theorem dX3_weighLeaving_5 : decode cX3_weighLeaving 5 = .ok (.if_icmp .ge 71, 3) := by decide +kernel
theorem dX3_weighLeaving_8 : decode cX3_weighLeaving 8 = .ok (.aload_n 0, 1) := by decide +kernel
theorem dX3_weighLeaving_9 : decode cX3_weighLeaving 9 = .ok (.getfield 10, 3) := by decide +kernel
theorem dX3_weighLeaving_12 : decode cX3_weighLeaving 12 = .ok (.iload_n 1, 1) := by decide +kernel
theorem dX3_weighLeaving_13 : decode cX3_weighLeaving 13 = .ok (.iload_n 3, 1) := by decide +kernel
theorem dX3_weighLeaving_14 : decode cX3_weighLeaving 14 = .ok (.invokevirtual 147, 3) := by decide +kernel
theorem dX3_weighLeaving_17 : decode cX3_weighLeaving 17 = .ok (.aload_n 0, 1) := by decide +kernel
theorem dX3_weighLeaving_18 : decode cX3_weighLeaving 18 = .ok (.getfield 10, 3) := by decide +kernel
theorem dX3_weighLeaving_21 : decode cX3_weighLeaving 21 = .ok (.iload_n 2, 1) := by decide +kernel
theorem dX3_weighLeaving_22 : decode cX3_weighLeaving 22 = .ok (.iload_n 3, 1) := by decide +kernel
theorem dX3_weighLeaving_23 : decode cX3_weighLeaving 23 = .ok (.invokevirtual 147, 3) := by decide +kernel
theorem dX3_weighLeaving_26 : decode cX3_weighLeaving 26 = .ok (.invokestatic 162, 3) := by decide +kernel
theorem dX3_weighLeaving_29 : decode cX3_weighLeaving 29 = .ok (.istore 4, 2) := by decide +kernel
theorem dX3_weighLeaving_31 : decode cX3_weighLeaving 31 = .ok (.aload_n 0, 1) := by decide +kernel
theorem dX3_weighLeaving_32 : decode cX3_weighLeaving 32 = .ok (.getfield 37, 3) := by decide +kernel
theorem dX3_weighLeaving_35 : decode cX3_weighLeaving 35 = .ok (.iload_n 3, 1) := by decide +kernel
theorem dX3_weighLeaving_36 : decode cX3_weighLeaving 36 = .ok (.aload_n 0, 1) := by decide +kernel
theorem dX3_weighLeaving_37 : decode cX3_weighLeaving 37 = .ok (.getfield 10, 3) := by decide +kernel
theorem dX3_weighLeaving_40 : decode cX3_weighLeaving 40 = .ok (.iload_n 2, 1) := by decide +kernel
theorem dX3_weighLeaving_41 : decode cX3_weighLeaving 41 = .ok (.iload_n 3, 1) := by decide +kernel
theorem dX3_weighLeaving_42 : decode cX3_weighLeaving 42 = .ok (.invokevirtual 250, 3) := by decide +kernel
theorem dX3_weighLeaving_45 : decode cX3_weighLeaving 45 = .ok (.iload 4, 2) := by decide +kernel
theorem dX3_weighLeaving_47 : decode cX3_weighLeaving 47 = .ok (.isub, 1) := by decide +kernel
theorem dX3_weighLeaving_48 : decode cX3_weighLeaving 48 = .ok (.iastore, 1) := by decide +kernel
theorem dX3_weighLeaving_49 : decode cX3_weighLeaving 49 = .ok (.aload_n 0, 1) := by decide +kernel
theorem dX3_weighLeaving_50 : decode cX3_weighLeaving 50 = .ok (.getfield 37, 3) := by decide +kernel
theorem dX3_weighLeaving_53 : decode cX3_weighLeaving 53 = .ok (.bipush 6, 2) := by decide +kernel
theorem dX3_weighLeaving_55 : decode cX3_weighLeaving 55 = .ok (.iload_n 3, 1) := by decide +kernel
theorem dX3_weighLeaving_56 : decode cX3_weighLeaving 56 = .ok (.iadd, 1) := by decide +kernel
theorem dX3_weighLeaving_57 : decode cX3_weighLeaving 57 = .ok (.aload_n 0, 1) := by decide +kernel
theorem dX3_weighLeaving_58 : decode cX3_weighLeaving 58 = .ok (.getfield 10, 3) := by decide +kernel
theorem dX3_weighLeaving_61 : decode cX3_weighLeaving 61 = .ok (.iload_n 1, 1) := by decide +kernel
theorem dX3_weighLeaving_62 : decode cX3_weighLeaving 62 = .ok (.iload_n 3, 1) := by decide +kernel
theorem dX3_weighLeaving_63 : decode cX3_weighLeaving 63 = .ok (.invokevirtual 250, 3) := by decide +kernel
theorem dX3_weighLeaving_66 : decode cX3_weighLeaving 66 = .ok (.iload 4, 2) := by decide +kernel
theorem dX3_weighLeaving_68 : decode cX3_weighLeaving 68 = .ok (.isub, 1) := by decide +kernel
theorem dX3_weighLeaving_69 : decode cX3_weighLeaving 69 = .ok (.iastore, 1) := by decide +kernel
theorem dX3_weighLeaving_70 : decode cX3_weighLeaving 70 = .ok (.iinc 3 1, 3) := by decide +kernel
theorem dX3_weighLeaving_73 : decode cX3_weighLeaving 73 = .ok (.goto (-71), 3) := by decide +kernel
theorem dX3_weighLeaving_76 : decode cX3_weighLeaving 76 = .ok (.return_, 1) := by decide +kernel
set_option maxRecDepth 20000 in
theorem ggX3_rests_X3_gain : GoodIn wsX3_rests wsX3_gain := goodIn_r _ [5, 6, 7, 8, 9, 10, 11, 12, 13, 14, 15, 16, 17, 18] (by decide +kernel) (by decide +kernel)
set_option maxRecDepth 20000 in
theorem gX3_rests_X3_gain : GoodIn wsX3_rests (wsV RX3 253 RX3 yX3_gain wsX3_gain) := goodIn_app (goodIn_of _ (by decide +kernel)) ggX3_rests_X3_gain
theorem dX3_rests_0 : decode cX3_rests 0 = .ok (.iconst 0, 1) := by decide +kernel
theorem dX3_rests_1 : decode cX3_rests 1 = .ok (.istore_n 3, 1) := by decide +kernel
theorem dX3_rests_2 : decode cX3_rests 2 = .ok (.iload_n 3, 1) := by decide +kernel
theorem dX3_rests_3 : decode cX3_rests 3 = .ok (.bipush 6, 2) := by decide +kernel
theorem dX3_rests_5 : decode cX3_rests 5 = .ok (.if_icmp .ge 47, 3) := by decide +kernel
theorem dX3_rests_8 : decode cX3_rests 8 = .ok (.aload_n 0, 1) := by decide +kernel
theorem dX3_rests_9 : decode cX3_rests 9 = .ok (.iconst 0, 1) := by decide +kernel
theorem dX3_rests_10 : decode cX3_rests 10 = .ok (.iload_n 3, 1) := by decide +kernel
theorem dX3_rests_11 : decode cX3_rests 11 = .ok (.iload_n 2, 1) := by decide +kernel
theorem dX3_rests_12 : decode cX3_rests 12 = .ok (.invokevirtual 253, 3) := by decide +kernel
theorem dX3_rests_15 : decode cX3_rests 15 = .ok (.aload_n 0, 1) := by decide +kernel
theorem dX3_rests_16 : decode cX3_rests 16 = .ok (.iconst 0, 1) := by decide +kernel
theorem dX3_rests_17 : decode cX3_rests 17 = .ok (.iload_n 1, 1) := by decide +kernel
theorem dX3_rests_18 : decode cX3_rests 18 = .ok (.iload_n 2, 1) := by decide +kernel
theorem dX3_rests_19 : decode cX3_rests 19 = .ok (.invokevirtual 253, 3) := by decide +kernel
theorem dX3_rests_22 : decode cX3_rests 22 = .ok (.if_icmp .gt 22, 3) := by decide +kernel
theorem dX3_rests_25 : decode cX3_rests 25 = .ok (.aload_n 0, 1) := by decide +kernel
theorem dX3_rests_26 : decode cX3_rests 26 = .ok (.bipush 6, 2) := by decide +kernel
theorem dX3_rests_28 : decode cX3_rests 28 = .ok (.iload_n 3, 1) := by decide +kernel
theorem dX3_rests_29 : decode cX3_rests 29 = .ok (.iload_n 1, 1) := by decide +kernel
theorem dX3_rests_30 : decode cX3_rests 30 = .ok (.invokevirtual 253, 3) := by decide +kernel
theorem dX3_rests_33 : decode cX3_rests 33 = .ok (.aload_n 0, 1) := by decide +kernel
theorem dX3_rests_34 : decode cX3_rests 34 = .ok (.bipush 6, 2) := by decide +kernel
theorem dX3_rests_36 : decode cX3_rests 36 = .ok (.iload_n 2, 1) := by decide +kernel
theorem dX3_rests_37 : decode cX3_rests 37 = .ok (.iload_n 1, 1) := by decide +kernel
theorem dX3_rests_38 : decode cX3_rests 38 = .ok (.invokevirtual 253, 3) := by decide +kernel
theorem dX3_rests_41 : decode cX3_rests 41 = .ok (.if_icmp .le 5, 3) := by decide +kernel
theorem dX3_rests_44 : decode cX3_rests 44 = .ok (.iconst 0, 1) := by decide +kernel
theorem dX3_rests_45 : decode cX3_rests 45 = .ok (.ireturn, 1) := by decide +kernel
theorem dX3_rests_46 : decode cX3_rests 46 = .ok (.iinc 3 1, 3) := by decide +kernel
theorem dX3_rests_49 : decode cX3_rests 49 = .ok (.goto (-47), 3) := by decide +kernel
theorem dX3_rests_52 : decode cX3_rests 52 = .ok (.iconst 1, 1) := by decide +kernel
theorem dX3_rests_53 : decode cX3_rests 53 = .ok (.ireturn, 1) := by decide +kernel
theorem dX3_gain_0 : decode cX3_gain 0 = .ok (.aload_n 0, 1) := by decide +kernel
theorem dX3_gain_1 : decode cX3_gain 1 = .ok (.getfield 37, 3) := by decide +kernel
theorem dX3_gain_4 : decode cX3_gain 4 = .ok (.iload_n 1, 1) := by decide +kernel
theorem dX3_gain_5 : decode cX3_gain 5 = .ok (.iload_n 2, 1) := by decide +kernel
theorem dX3_gain_6 : decode cX3_gain 6 = .ok (.iadd, 1) := by decide +kernel
theorem dX3_gain_7 : decode cX3_gain 7 = .ok (.iaload, 1) := by decide +kernel
theorem dX3_gain_8 : decode cX3_gain 8 = .ok (.iload_n 2, 1) := by decide +kernel
theorem dX3_gain_9 : decode cX3_gain 9 = .ok (.iload_n 3, 1) := by decide +kernel
theorem dX3_gain_10 : decode cX3_gain 10 = .ok (.if_icmp .ne 7, 3) := by decide +kernel
theorem dX3_gain_13 : decode cX3_gain 13 = .ok (.iconst 5, 1) := by decide +kernel
theorem dX3_gain_14 : decode cX3_gain 14 = .ok (.goto 4, 3) := by decide +kernel
theorem dX3_gain_17 : decode cX3_gain 17 = .ok (.iconst 0, 1) := by decide +kernel
theorem dX3_gain_18 : decode cX3_gain 18 = .ok (.isub, 1) := by decide +kernel
theorem dX3_gain_19 : decode cX3_gain 19 = .ok (.ireturn, 1) := by decide +kernel
set_option maxRecDepth 20000 in
theorem ggX3_driftOdds_J7_fill_d0a16 : GoodIn wsX3_driftOdds wsJ7_fill_d0a16 := goodIn_r _ [12] (by decide +kernel) (by decide +kernel)
set_option maxRecDepth 20000 in
theorem gX3_driftOdds_J7_fill_d0a16 : GoodIn wsX3_driftOdds (va_wsS RX3 208 yJ7_fill_d0a16 wsJ7_fill_d0a16) := goodIn_app (goodIn_of _ (by decide +kernel)) ggX3_driftOdds_J7_fill_d0a16
set_option maxRecDepth 20000 in
theorem ggX3_driftOdds_X0_cellBy : GoodIn wsX3_driftOdds wsX0_cellBy := goodIn_r _ [16, 17, 18, 19, 20, 21, 22, 23, 24, 25, 15, 26, 27, 28, 29] (by decide +kernel) (by decide +kernel)
set_option maxRecDepth 20000 in
theorem gX3_driftOdds_X0_cellBy : GoodIn wsX3_driftOdds (va_wsS RX3 256 yX0_cellBy wsX0_cellBy) := goodIn_app (goodIn_of _ (by decide +kernel)) ggX3_driftOdds_X0_cellBy
set_option maxRecDepth 20000 in
theorem ggX3_driftOdds_X1_nextCell : GoodIn wsX3_driftOdds wsX1_nextCell := goodIn_r _ [34, 35, 36, 37, 14, 15, 16, 17, 18, 19, 20, 21, 22, 23, 24, 25, 26, 27, 28, 29, 50, 51, 52, 53, 54, 55, 56, 57, 58, 59, 60, 61, 62] (by decide +kernel) (by decide +kernel)
set_option maxRecDepth 20000 in
theorem gX3_driftOdds_X1_nextCell : GoodIn wsX3_driftOdds (wsV RX3 165 RX1 yX1_nextCell wsX1_nextCell) := goodIn_app (goodIn_of _ (by decide +kernel)) ggX3_driftOdds_X1_nextCell
theorem dX3_driftOdds_0 : decode cX3_driftOdds 0 = .ok (.aload_n 0, 1) := by decide +kernel
theorem dX3_driftOdds_1 : decode cX3_driftOdds 1 = .ok (.getfield 34, 3) := by decide +kernel
theorem dX3_driftOdds_4 : decode cX3_driftOdds 4 = .ok (.lconst 0, 1) := by decide +kernel
theorem dX3_driftOdds_5 : decode cX3_driftOdds 5 = .ok (.invokestatic 208, 3) := by decide +kernel
theorem dX3_driftOdds_8 : decode cX3_driftOdds 8 = .ok (.aload_n 0, 1) := by decide +kernel
theorem dX3_driftOdds_9 : decode cX3_driftOdds 9 = .ok (.getfield 10, 3) := by decide +kernel
theorem dX3_driftOdds_12 : decode cX3_driftOdds 12 = .ok (.getfield 65, 3) := by decide +kernel
theorem dX3_driftOdds_15 : decode cX3_driftOdds 15 = .ok (.iload_n 2, 1) := by decide +kernel
theorem dX3_driftOdds_16 : decode cX3_driftOdds 16 = .ok (.bipush 12, 2) := by decide +kernel
theorem dX3_driftOdds_18 : decode cX3_driftOdds 18 = .ok (.irem, 1) := by decide +kernel
theorem dX3_driftOdds_19 : decode cX3_driftOdds 19 = .ok (.iaload, 1) := by decide +kernel
theorem dX3_driftOdds_20 : decode cX3_driftOdds 20 = .ok (.istore 4, 2) := by decide +kernel
theorem dX3_driftOdds_22 : decode cX3_driftOdds 22 = .ok (.iconst 0, 1) := by decide +kernel
theorem dX3_driftOdds_23 : decode cX3_driftOdds 23 = .ok (.istore 5, 2) := by decide +kernel
theorem dX3_driftOdds_25 : decode cX3_driftOdds 25 = .ok (.iload 5, 2) := by decide +kernel
theorem dX3_driftOdds_27 : decode cX3_driftOdds 27 = .ok (.bipush 36, 2) := by decide +kernel
theorem dX3_driftOdds_29 : decode cX3_driftOdds 29 = .ok (.if_icmp .ge 77, 3) := by decide +kernel
theorem dX3_driftOdds_32 : decode cX3_driftOdds 32 = .ok (.iload_n 1, 1) := by decide +kernel
theorem dX3_driftOdds_33 : decode cX3_driftOdds 33 = .ok (.iload 5, 2) := by decide +kernel
theorem dX3_driftOdds_35 : decode cX3_driftOdds 35 = .ok (.iload_n 2, 1) := by decide +kernel
theorem dX3_driftOdds_36 : decode cX3_driftOdds 36 = .ok (.iload 4, 2) := by decide +kernel
theorem dX3_driftOdds_38 : decode cX3_driftOdds 38 = .ok (.iconst 0, 1) := by decide +kernel
theorem dX3_driftOdds_39 : decode cX3_driftOdds 39 = .ok (.invokestatic 256, 3) := by decide +kernel
theorem dX3_driftOdds_42 : decode cX3_driftOdds 42 = .ok (.istore 6, 2) := by decide +kernel
theorem dX3_driftOdds_44 : decode cX3_driftOdds 44 = .ok (.aload_n 0, 1) := by decide +kernel
theorem dX3_driftOdds_45 : decode cX3_driftOdds 45 = .ok (.getfield 10, 3) := by decide +kernel
theorem dX3_driftOdds_48 : decode cX3_driftOdds 48 = .ok (.iload_n 1, 1) := by decide +kernel
theorem dX3_driftOdds_49 : decode cX3_driftOdds 49 = .ok (.iload 5, 2) := by decide +kernel
theorem dX3_driftOdds_51 : decode cX3_driftOdds 51 = .ok (.iload_n 2, 1) := by decide +kernel
theorem dX3_driftOdds_52 : decode cX3_driftOdds 52 = .ok (.invokevirtual 165, 3) := by decide +kernel
theorem dX3_driftOdds_55 : decode cX3_driftOdds 55 = .ok (.istore 7, 2) := by decide +kernel
theorem dX3_driftOdds_57 : decode cX3_driftOdds 57 = .ok (.aload_n 0, 1) := by decide +kernel
theorem dX3_driftOdds_58 : decode cX3_driftOdds 58 = .ok (.getfield 34, 3) := by decide +kernel
theorem dX3_driftOdds_61 : decode cX3_driftOdds 61 = .ok (.iload 6, 2) := by decide +kernel
theorem dX3_driftOdds_63 : decode cX3_driftOdds 63 = .ok (.dup2, 1) := by decide +kernel
theorem dX3_driftOdds_64 : decode cX3_driftOdds 64 = .ok (.laload, 1) := by decide +kernel
theorem dX3_driftOdds_65 : decode cX3_driftOdds 65 = .ok (.aload_n 0, 1) := by decide +kernel
theorem dX3_driftOdds_66 : decode cX3_driftOdds 66 = .ok (.getfield 30, 3) := by decide +kernel
theorem dX3_driftOdds_69 : decode cX3_driftOdds 69 = .ok (.iload 5, 2) := by decide +kernel
theorem dX3_driftOdds_71 : decode cX3_driftOdds 71 = .ok (.laload, 1) := by decide +kernel
theorem dX3_driftOdds_72 : decode cX3_driftOdds 72 = .ok (.iload_n 3, 1) := by decide +kernel
theorem dX3_driftOdds_73 : decode cX3_driftOdds 73 = .ok (.i2l, 1) := by decide +kernel
theorem dX3_driftOdds_74 : decode cX3_driftOdds 74 = .ok (.lmul, 1) := by decide +kernel
theorem dX3_driftOdds_75 : decode cX3_driftOdds 75 = .ok (.ladd, 1) := by decide +kernel
theorem dX3_driftOdds_76 : decode cX3_driftOdds 76 = .ok (.lastore, 1) := by decide +kernel
theorem dX3_driftOdds_77 : decode cX3_driftOdds 77 = .ok (.aload_n 0, 1) := by decide +kernel
theorem dX3_driftOdds_78 : decode cX3_driftOdds 78 = .ok (.getfield 34, 3) := by decide +kernel
theorem dX3_driftOdds_81 : decode cX3_driftOdds 81 = .ok (.iload 7, 2) := by decide +kernel
theorem dX3_driftOdds_83 : decode cX3_driftOdds 83 = .ok (.dup2, 1) := by decide +kernel
theorem dX3_driftOdds_84 : decode cX3_driftOdds 84 = .ok (.laload, 1) := by decide +kernel
theorem dX3_driftOdds_85 : decode cX3_driftOdds 85 = .ok (.aload_n 0, 1) := by decide +kernel
theorem dX3_driftOdds_86 : decode cX3_driftOdds 86 = .ok (.getfield 30, 3) := by decide +kernel
theorem dX3_driftOdds_89 : decode cX3_driftOdds 89 = .ok (.iload 5, 2) := by decide +kernel
theorem dX3_driftOdds_91 : decode cX3_driftOdds 91 = .ok (.laload, 1) := by decide +kernel
theorem dX3_driftOdds_92 : decode cX3_driftOdds 92 = .ok (.bipush 10, 2) := by decide +kernel
theorem dX3_driftOdds_94 : decode cX3_driftOdds 94 = .ok (.iload_n 3, 1) := by decide +kernel
theorem dX3_driftOdds_95 : decode cX3_driftOdds 95 = .ok (.isub, 1) := by decide +kernel
theorem dX3_driftOdds_96 : decode cX3_driftOdds 96 = .ok (.i2l, 1) := by decide +kernel
theorem dX3_driftOdds_97 : decode cX3_driftOdds 97 = .ok (.lmul, 1) := by decide +kernel
theorem dX3_driftOdds_98 : decode cX3_driftOdds 98 = .ok (.ladd, 1) := by decide +kernel
theorem dX3_driftOdds_99 : decode cX3_driftOdds 99 = .ok (.lastore, 1) := by decide +kernel
theorem dX3_driftOdds_100 : decode cX3_driftOdds 100 = .ok (.iinc 5 1, 3) := by decide +kernel
theorem dX3_driftOdds_103 : decode cX3_driftOdds 103 = .ok (.goto (-78), 3) := by decide +kernel
theorem dX3_driftOdds_106 : decode cX3_driftOdds 106 = .ok (.aload_n 0, 1) := by decide +kernel
theorem dX3_driftOdds_107 : decode cX3_driftOdds 107 = .ok (.getfield 34, 3) := by decide +kernel
theorem dX3_driftOdds_110 : decode cX3_driftOdds 110 = .ok (.iconst 0, 1) := by decide +kernel
theorem dX3_driftOdds_111 : decode cX3_driftOdds 111 = .ok (.aload_n 0, 1) := by decide +kernel
theorem dX3_driftOdds_112 : decode cX3_driftOdds 112 = .ok (.getfield 30, 3) := by decide +kernel
theorem dX3_driftOdds_115 : decode cX3_driftOdds 115 = .ok (.iconst 0, 1) := by decide +kernel
theorem dX3_driftOdds_116 : decode cX3_driftOdds 116 = .ok (.bipush 36, 2) := by decide +kernel
theorem dX3_driftOdds_118 : decode cX3_driftOdds 118 = .ok (.invokestatic 262, 3) := by decide +kernel
theorem dX3_driftOdds_121 : decode cX3_driftOdds 121 = .ok (.return_, 1) := by decide +kernel
set_option maxRecDepth 20000 in
theorem ggX3_setFraction_X3_commonDivisor : GoodIn wsX3_setFraction wsX3_commonDivisor := goodIn_r _ [6] (by decide +kernel) (by decide +kernel)
set_option maxRecDepth 20000 in
theorem gX3_setFraction_X3_commonDivisor : GoodIn wsX3_setFraction (va_wsS RX3 268 yX3_commonDivisor wsX3_commonDivisor) := goodIn_app (goodIn_of _ (by decide +kernel)) ggX3_setFraction_X3_commonDivisor
theorem dX3_setFraction_0 : decode cX3_setFraction 0 = .ok (.lload_n 1, 1) := by decide +kernel
theorem dX3_setFraction_1 : decode cX3_setFraction 1 = .ok (.lload_n 3, 1) := by decide +kernel
theorem dX3_setFraction_2 : decode cX3_setFraction 2 = .ok (.invokestatic 268, 3) := by decide +kernel
theorem dX3_setFraction_5 : decode cX3_setFraction 5 = .ok (.lstore 5, 2) := by decide +kernel
theorem dX3_setFraction_7 : decode cX3_setFraction 7 = .ok (.lload 5, 2) := by decide +kernel
theorem dX3_setFraction_9 : decode cX3_setFraction 9 = .ok (.lconst 0, 1) := by decide +kernel
theorem dX3_setFraction_10 : decode cX3_setFraction 10 = .ok (.lcmp, 1) := by decide +kernel
theorem dX3_setFraction_11 : decode cX3_setFraction 11 = .ok (.ifCond .le 19, 3) := by decide +kernel
theorem dX3_setFraction_14 : decode cX3_setFraction 14 = .ok (.aload_n 0, 1) := by decide +kernel
theorem dX3_setFraction_15 : decode cX3_setFraction 15 = .ok (.lload_n 1, 1) := by decide +kernel
theorem dX3_setFraction_16 : decode cX3_setFraction 16 = .ok (.lload 5, 2) := by decide +kernel
theorem dX3_setFraction_18 : decode cX3_setFraction 18 = .ok (.ldiv, 1) := by decide +kernel
theorem dX3_setFraction_19 : decode cX3_setFraction 19 = .ok (.putfield 227, 3) := by decide +kernel
theorem dX3_setFraction_22 : decode cX3_setFraction 22 = .ok (.aload_n 0, 1) := by decide +kernel
theorem dX3_setFraction_23 : decode cX3_setFraction 23 = .ok (.lload_n 3, 1) := by decide +kernel
theorem dX3_setFraction_24 : decode cX3_setFraction 24 = .ok (.lload 5, 2) := by decide +kernel
theorem dX3_setFraction_26 : decode cX3_setFraction 26 = .ok (.ldiv, 1) := by decide +kernel
theorem dX3_setFraction_27 : decode cX3_setFraction 27 = .ok (.putfield 41, 3) := by decide +kernel
theorem dX3_setFraction_30 : decode cX3_setFraction 30 = .ok (.return_, 1) := by decide +kernel
theorem dX3_commonDivisor_0 : decode cX3_commonDivisor 0 = .ok (.lload_n 0, 1) := by decide +kernel
theorem dX3_commonDivisor_1 : decode cX3_commonDivisor 1 = .ok (.lstore 4, 2) := by decide +kernel
theorem dX3_commonDivisor_3 : decode cX3_commonDivisor 3 = .ok (.lload_n 2, 1) := by decide +kernel
theorem dX3_commonDivisor_4 : decode cX3_commonDivisor 4 = .ok (.lstore 6, 2) := by decide +kernel
theorem dX3_commonDivisor_6 : decode cX3_commonDivisor 6 = .ok (.iconst 0, 1) := by decide +kernel
theorem dX3_commonDivisor_7 : decode cX3_commonDivisor 7 = .ok (.istore 8, 2) := by decide +kernel
theorem dX3_commonDivisor_9 : decode cX3_commonDivisor 9 = .ok (.iload 8, 2) := by decide +kernel
theorem dX3_commonDivisor_11 : decode cX3_commonDivisor 11 = .ok (.sipush 128, 3) := by decide +kernel
theorem dX3_commonDivisor_14 : decode cX3_commonDivisor 14 = .ok (.if_icmp .ge 31, 3) := by decide +kernel
theorem dX3_commonDivisor_17 : decode cX3_commonDivisor 17 = .ok (.lload 6, 2) := by decide +kernel
theorem dX3_commonDivisor_19 : decode cX3_commonDivisor 19 = .ok (.lconst 0, 1) := by decide +kernel
theorem dX3_commonDivisor_20 : decode cX3_commonDivisor 20 = .ok (.lcmp, 1) := by decide +kernel
theorem dX3_commonDivisor_21 : decode cX3_commonDivisor 21 = .ok (.ifCond .eq 24, 3) := by decide +kernel
theorem dX3_commonDivisor_24 : decode cX3_commonDivisor 24 = .ok (.lload 4, 2) := by decide +kernel
theorem dX3_commonDivisor_26 : decode cX3_commonDivisor 26 = .ok (.lload 6, 2) := by decide +kernel
theorem dX3_commonDivisor_28 : decode cX3_commonDivisor 28 = .ok (.lrem, 1) := by decide +kernel
theorem dX3_commonDivisor_29 : decode cX3_commonDivisor 29 = .ok (.lstore 9, 2) := by decide +kernel
theorem dX3_commonDivisor_31 : decode cX3_commonDivisor 31 = .ok (.lload 6, 2) := by decide +kernel
theorem dX3_commonDivisor_33 : decode cX3_commonDivisor 33 = .ok (.lstore 4, 2) := by decide +kernel
theorem dX3_commonDivisor_35 : decode cX3_commonDivisor 35 = .ok (.lload 9, 2) := by decide +kernel
theorem dX3_commonDivisor_37 : decode cX3_commonDivisor 37 = .ok (.lstore 6, 2) := by decide +kernel
theorem dX3_commonDivisor_39 : decode cX3_commonDivisor 39 = .ok (.iinc 8 1, 3) := by decide +kernel
theorem dX3_commonDivisor_42 : decode cX3_commonDivisor 42 = .ok (.goto (-33), 3) := by decide +kernel
theorem dX3_commonDivisor_45 : decode cX3_commonDivisor 45 = .ok (.lload 4, 2) := by decide +kernel
theorem dX3_commonDivisor_47 : decode cX3_commonDivisor 47 = .ok (.lreturn, 1) := by decide +kernel
