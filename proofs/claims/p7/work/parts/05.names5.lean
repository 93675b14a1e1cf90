theorem dX4_sun_35 : decode cX4_sun 35 = .ok (.iload_n 1, 1) := by decide +kernel
theorem dX4_sun_36 : decode cX4_sun 36 = .ok (.invokestatic 68, 3) := by decide +kernel
theorem dX4_sun_39 : decode cX4_sun 39 = .ok (.ifCond .eq 19, 3) := by decide +kernel
theorem dX4_sun_42 : decode cX4_sun 42 = .ok (.iload 5, 2) := by decide +kernel
theorem dX4_sun_44 : decode cX4_sun 44 = .ok (.ifCond .eq 14, 3) := by decide +kernel
theorem dX4_sun_47 : decode cX4_sun 47 = .ok (.iload 4, 2) := by decide +kernel
theorem dX4_sun_49 : decode cX4_sun 49 = .ok (.iconst 0, 1) := by decide +kernel
theorem dX4_sun_50 : decode cX4_sun 50 = .ok (.bipush 9, 2) := by decide +kernel
theorem dX4_sun_52 : decode cX4_sun 52 = .ok (.invokestatic 45, 3) := by decide +kernel
theorem dX4_sun_55 : decode cX4_sun 55 = .ok (.ifCond .ne 9, 3) := by decide +kernel
theorem dX4_sun_58 : decode cX4_sun 58 = .ok (.aload_n 0, 1) := by decide +kernel
theorem dX4_sun_59 : decode cX4_sun 59 = .ok (.iconst 2, 1) := by decide +kernel
theorem dX4_sun_60 : decode cX4_sun 60 = .ok (.invokevirtual 72, 3) := by decide +kernel
theorem dX4_sun_63 : decode cX4_sun 63 = .ok (.ireturn, 1) := by decide +kernel
theorem dX4_sun_64 : decode cX4_sun 64 = .ok (.aload_n 0, 1) := by decide +kernel
theorem dX4_sun_65 : decode cX4_sun 65 = .ok (.getfield 10, 3) := by decide +kernel
theorem dX4_sun_68 : decode cX4_sun 68 = .ok (.iload_n 1, 1) := by decide +kernel
theorem dX4_sun_69 : decode cX4_sun 69 = .ok (.iload_n 2, 1) := by decide +kernel
theorem dX4_sun_70 : decode cX4_sun 70 = .ok (.iload_n 3, 1) := by decide +kernel
theorem dX4_sun_71 : decode cX4_sun 71 = .ok (.iload 4, 2) := by decide +kernel
theorem dX4_sun_73 : decode cX4_sun 73 = .ok (.invokevirtual 75, 3) := by decide +kernel
theorem dX4_sun_76 : decode cX4_sun 76 = .ok (.aload_n 0, 1) := by decide +kernel
theorem dX4_sun_77 : decode cX4_sun 77 = .ok (.invokevirtual 79, 3) := by decide +kernel
theorem dX4_sun_80 : decode cX4_sun 80 = .ok (.ireturn, 1) := by decide +kernel
set_option maxRecDepth 20000 in
theorem ggX4_limit_X4_isCell : GoodIn wsX4_limit wsX4_isCell := goodIn_r _ [5, 6, 7, 4, 8] rfl (by decide +kernel)
set_option maxRecDepth 20000 in
theorem gX4_limit_X4_isCell : GoodIn wsX4_limit (va_wsS RX4 83 yX4_isCell wsX4_isCell) := goodIn_app (goodIn_of _ (by decide +kernel)) ggX4_limit_X4_isCell
set_option maxRecDepth 20000 in
theorem ggX4_limit_X4_denied : GoodIn wsX4_limit wsX4_denied := goodIn_r _ [12, 13, 24, 25, 26, 27, 28] rfl (by decide +kernel)
set_option maxRecDepth 20000 in
theorem gX4_limit_X4_denied : GoodIn wsX4_limit (wsV RX4 72 RX4 yX4_denied wsX4_denied) := goodIn_app (goodIn_of _ (by decide +kernel)) ggX4_limit_X4_denied
set_option maxRecDepth 20000 in
theorem ggX4_limit_X4_isWithin : GoodIn wsX4_limit wsX4_isWithin := goodIn_r _ [8] rfl (by decide +kernel)
set_option maxRecDepth 20000 in
theorem gX4_limit_X4_isWithin : GoodIn wsX4_limit (va_wsS RX4 45 yX4_isWithin wsX4_isWithin) := goodIn_app (goodIn_of _ (by decide +kernel)) ggX4_limit_X4_isWithin
set_option maxRecDepth 20000 in
theorem ggX4_limit_X0_setLimit : GoodIn wsX4_limit wsX0_setLimit := goodIn_r _ [18, 19, 29, 30, 31, 32, 33, 34, 35, 36, 37, 38, 39] rfl (by decide +kernel)
set_option maxRecDepth 20000 in
theorem gX4_limit_X0_setLimit : GoodIn wsX4_limit (wsV RX4 86 RX0 yX0_setLimit wsX0_setLimit) := goodIn_app (goodIn_of _ (by decide +kernel)) ggX4_limit_X0_setLimit
set_option maxRecDepth 20000 in
theorem ggX4_limit_X4_allowed : GoodIn wsX4_limit wsX4_allowed := goodIn_r _ [23, 13, 24, 25, 26, 27, 28] rfl (by decide +kernel)
set_option maxRecDepth 20000 in
theorem gX4_limit_X4_allowed : GoodIn wsX4_limit (wsV RX4 79 RX4 yX4_allowed wsX4_allowed) := goodIn_app (goodIn_of _ (by decide +kernel)) ggX4_limit_X4_allowed
theorem dX4_limit_0 : decode cX4_limit 0 = .ok (.iload_n 1, 1) := by decide +kernel
theorem dX4_limit_1 : decode cX4_limit 1 = .ok (.invokestatic 83, 3) := by decide +kernel
theorem dX4_limit_4 : decode cX4_limit 4 = .ok (.ifCond .ne 9, 3) := by decide +kernel
theorem dX4_limit_7 : decode cX4_limit 7 = .ok (.aload_n 0, 1) := by decide +kernel
theorem dX4_limit_8 : decode cX4_limit 8 = .ok (.iconst 1, 1) := by decide +kernel
theorem dX4_limit_9 : decode cX4_limit 9 = .ok (.invokevirtual 72, 3) := by decide +kernel
theorem dX4_limit_12 : decode cX4_limit 12 = .ok (.ireturn, 1) := by decide +kernel
theorem dX4_limit_13 : decode cX4_limit 13 = .ok (.iload_n 2, 1) := by decide +kernel
theorem dX4_limit_14 : decode cX4_limit 14 = .ok (.iconst 0, 1) := by decide +kernel
theorem dX4_limit_15 : decode cX4_limit 15 = .ok (.sipush 10000, 3) := by decide +kernel
theorem dX4_limit_18 : decode cX4_limit 18 = .ok (.invokestatic 45, 3) := by decide +kernel
theorem dX4_limit_21 : decode cX4_limit 21 = .ok (.ifCond .ne 9, 3) := by decide +kernel
theorem dX4_limit_24 : decode cX4_limit 24 = .ok (.aload_n 0, 1) := by decide +kernel
theorem dX4_limit_25 : decode cX4_limit 25 = .ok (.iconst 2, 1) := by decide +kernel
theorem dX4_limit_26 : decode cX4_limit 26 = .ok (.invokevirtual 72, 3) := by decide +kernel
theorem dX4_limit_29 : decode cX4_limit 29 = .ok (.ireturn, 1) := by decide +kernel
theorem dX4_limit_30 : decode cX4_limit 30 = .ok (.aload_n 0, 1) := by decide +kernel
theorem dX4_limit_31 : decode cX4_limit 31 = .ok (.getfield 21, 3) := by decide +kernel
theorem dX4_limit_34 : decode cX4_limit 34 = .ok (.iload_n 1, 1) := by decide +kernel
theorem dX4_limit_35 : decode cX4_limit 35 = .ok (.iload_n 2, 1) := by decide +kernel
theorem dX4_limit_36 : decode cX4_limit 36 = .ok (.invokevirtual 86, 3) := by decide +kernel
theorem dX4_limit_39 : decode cX4_limit 39 = .ok (.aload_n 0, 1) := by decide +kernel
theorem dX4_limit_40 : decode cX4_limit 40 = .ok (.invokevirtual 79, 3) := by decide +kernel
theorem dX4_limit_43 : decode cX4_limit 43 = .ok (.ireturn, 1) := by decide +kernel
set_option maxRecDepth 20000 in
theorem ggX4_wind_X4_isHour : GoodIn wsX4_wind wsX4_isHour := goodIn_r _ [5, 6, 7, 4, 8] rfl (by decide +kernel)
set_option maxRecDepth 20000 in
theorem gX4_wind_X4_isHour : GoodIn wsX4_wind (va_wsS RX4 68 yX4_isHour wsX4_isHour) := goodIn_app (goodIn_of _ (by decide +kernel)) ggX4_wind_X4_isHour
set_option maxRecDepth 20000 in
theorem ggX4_wind_X4_isWithin : GoodIn wsX4_wind wsX4_isWithin := goodIn_r _ [8] rfl (by decide +kernel)
set_option maxRecDepth 20000 in
theorem gX4_wind_X4_isWithin : GoodIn wsX4_wind (va_wsS RX4 45 yX4_isWithin wsX4_isWithin) := goodIn_app (goodIn_of _ (by decide +kernel)) ggX4_wind_X4_isWithin
set_option maxRecDepth 20000 in
theorem ggX4_wind_X4_denied : GoodIn wsX4_wind wsX4_denied := goodIn_r _ [12, 13, 24, 25, 26, 27, 28] rfl (by decide +kernel)
set_option maxRecDepth 20000 in
theorem gX4_wind_X4_denied : GoodIn wsX4_wind (wsV RX4 72 RX4 yX4_denied wsX4_denied) := goodIn_app (goodIn_of _ (by decide +kernel)) ggX4_wind_X4_denied
set_option maxRecDepth 20000 in
theorem ggX4_wind_X1_setWind : GoodIn wsX4_wind wsX1_setWind := goodIn_r _ [18, 19, 29, 30, 31, 32, 33, 34, 35, 36, 37, 38, 39] rfl (by decide +kernel)
set_option maxRecDepth 20000 in
theorem gX4_wind_X1_setWind : GoodIn wsX4_wind (wsV RX4 90 RX1 yX1_setWind wsX1_setWind) := goodIn_app (goodIn_of _ (by decide +kernel)) ggX4_wind_X1_setWind
set_option maxRecDepth 20000 in
theorem ggX4_wind_X4_allowed : GoodIn wsX4_wind wsX4_allowed := goodIn_r _ [23, 13, 24, 25, 26, 27, 28] rfl (by decide +kernel)
set_option maxRecDepth 20000 in
theorem gX4_wind_X4_allowed : GoodIn wsX4_wind (wsV RX4 79 RX4 yX4_allowed wsX4_allowed) := goodIn_app (goodIn_of _ (by decide +kernel)) ggX4_wind_X4_allowed
theorem dX4_wind_0 : decode cX4_wind 0 = .ok (.iload_n 1, 1) := by decide +kernel
theorem dX4_wind_1 : decode cX4_wind 1 = .ok (.invokestatic 68, 3) := by decide +kernel
theorem dX4_wind_4 : decode cX4_wind 4 = .ok (.ifCond .eq 13, 3) := by decide +kernel
theorem dX4_wind_7 : decode cX4_wind 7 = .ok (.iload_n 2, 1) := by decide +kernel
theorem dX4_wind_8 : decode cX4_wind 8 = .ok (.iconst 0, 1) := by decide +kernel
theorem dX4_wind_9 : decode cX4_wind 9 = .ok (.bipush 99, 2) := by decide +kernel
theorem dX4_wind_11 : decode cX4_wind 11 = .ok (.invokestatic 45, 3) := by decide +kernel
theorem dX4_wind_14 : decode cX4_wind 14 = .ok (.ifCond .ne 9, 3) := by decide +kernel
theorem dX4_wind_17 : decode cX4_wind 17 = .ok (.aload_n 0, 1) := by decide +kernel
theorem dX4_wind_18 : decode cX4_wind 18 = .ok (.iconst 2, 1) := by decide +kernel
theorem dX4_wind_19 : decode cX4_wind 19 = .ok (.invokevirtual 72, 3) := by decide +kernel
theorem dX4_wind_22 : decode cX4_wind 22 = .ok (.ireturn, 1) := by decide +kernel
theorem dX4_wind_23 : decode cX4_wind 23 = .ok (.aload_n 0, 1) := by decide +kernel
theorem dX4_wind_24 : decode cX4_wind 24 = .ok (.getfield 10, 3) := by decide +kernel
theorem dX4_wind_27 : decode cX4_wind 27 = .ok (.iload_n 1, 1) := by decide +kernel
theorem dX4_wind_28 : decode cX4_wind 28 = .ok (.iload_n 2, 1) := by decide +kernel
theorem dX4_wind_29 : decode cX4_wind 29 = .ok (.invokevirtual 90, 3) := by decide +kernel
theorem dX4_wind_32 : decode cX4_wind 32 = .ok (.aload_n 0, 1) := by decide +kernel
theorem dX4_wind_33 : decode cX4_wind 33 = .ok (.invokevirtual 79, 3) := by decide +kernel
theorem dX4_wind_36 : decode cX4_wind 36 = .ok (.ireturn, 1) := by decide +kernel
set_option maxRecDepth 20000 in
theorem ggX4_price_X4_isHour : GoodIn wsX4_price wsX4_isHour := goodIn_r _ [5, 6, 7, 4, 8] rfl (by decide +kernel)
set_option maxRecDepth 20000 in
theorem gX4_price_X4_isHour : GoodIn wsX4_price (va_wsS RX4 68 yX4_isHour wsX4_isHour) := goodIn_app (goodIn_of _ (by decide +kernel)) ggX4_price_X4_isHour
set_option maxRecDepth 20000 in
theorem ggX4_price_X4_isWithin : GoodIn wsX4_price wsX4_isWithin := goodIn_r _ [8] rfl (by decide +kernel)
set_option maxRecDepth 20000 in
theorem gX4_price_X4_isWithin : GoodIn wsX4_price (va_wsS RX4 45 yX4_isWithin wsX4_isWithin) := goodIn_app (goodIn_of _ (by decide +kernel)) ggX4_price_X4_isWithin
set_option maxRecDepth 20000 in
theorem ggX4_price_X4_denied : GoodIn wsX4_price wsX4_denied := goodIn_r _ [12, 13, 24, 25, 26, 27, 28] rfl (by decide +kernel)
set_option maxRecDepth 20000 in
theorem gX4_price_X4_denied : GoodIn wsX4_price (wsV RX4 72 RX4 yX4_denied wsX4_denied) := goodIn_app (goodIn_of _ (by decide +kernel)) ggX4_price_X4_denied
set_option maxRecDepth 20000 in
theorem ggX4_price_X3_setPrice : GoodIn wsX4_price wsX3_setPrice := goodIn_r _ [18, 19, 29, 30, 31, 32, 33, 34, 35, 36, 37, 38, 39, 40, 41, 42] rfl (by decide +kernel)
set_option maxRecDepth 20000 in
theorem gX4_price_X3_setPrice : GoodIn wsX4_price (wsV RX4 93 RX3 yX3_setPrice wsX3_setPrice) := goodIn_app (goodIn_of _ (by decide +kernel)) ggX4_price_X3_setPrice
set_option maxRecDepth 20000 in
theorem ggX4_price_X4_allowed : GoodIn wsX4_price wsX4_allowed := goodIn_r _ [23, 13, 24, 25, 26, 27, 28] rfl (by decide +kernel)
set_option maxRecDepth 20000 in
theorem gX4_price_X4_allowed : GoodIn wsX4_price (wsV RX4 79 RX4 yX4_allowed wsX4_allowed) := goodIn_app (goodIn_of _ (by decide +kernel)) ggX4_price_X4_allowed
theorem dX4_price_0 : decode cX4_price 0 = .ok (.iload_n 1, 1) := by decide +kernel
theorem dX4_price_1 : decode cX4_price 1 = .ok (.invokestatic 68, 3) := by decide +kernel
theorem dX4_price_4 : decode cX4_price 4 = .ok (.ifCond .eq 14, 3) := by decide +kernel
theorem dX4_price_7 : decode cX4_price 7 = .ok (.iload_n 2, 1) := by decide +kernel
theorem dX4_price_8 : decode cX4_price 8 = .ok (.iconst 0, 1) := by decide +kernel
theorem dX4_price_9 : decode cX4_price 9 = .ok (.sipush 999, 3) := by decide +kernel
theorem dX4_price_12 : decode cX4_price 12 = .ok (.invokestatic 45, 3) := by decide +kernel
theorem dX4_price_15 : decode cX4_price 15 = .ok (.ifCond .ne 9, 3) := by decide +kernel
theorem dX4_price_18 : decode cX4_price 18 = .ok (.aload_n 0, 1) := by decide +kernel
theorem dX4_price_19 : decode cX4_price 19 = .ok (.iconst 2, 1) := by decide +kernel
theorem dX4_price_20 : decode cX4_price 20 = .ok (.invokevirtual 72, 3) := by decide +kernel
theorem dX4_price_23 : decode cX4_price 23 = .ok (.ireturn, 1) := by decide +kernel
theorem dX4_price_24 : decode cX4_price 24 = .ok (.aload_n 0, 1) := by decide +kernel
theorem dX4_price_25 : decode cX4_price 25 = .ok (.getfield 30, 3) := by decide +kernel
theorem dX4_price_28 : decode cX4_price 28 = .ok (.iload_n 1, 1) := by decide +kernel
theorem dX4_price_29 : decode cX4_price 29 = .ok (.iload_n 2, 1) := by decide +kernel
theorem dX4_price_30 : decode cX4_price 30 = .ok (.invokevirtual 93, 3) := by decide +kernel
theorem dX4_price_33 : decode cX4_price 33 = .ok (.aload_n 0, 1) := by decide +kernel
theorem dX4_price_34 : decode cX4_price 34 = .ok (.invokevirtual 79, 3) := by decide +kernel
theorem dX4_price_37 : decode cX4_price 37 = .ok (.ireturn, 1) := by decide +kernel
set_option maxRecDepth 20000 in
theorem ggX4_dust_X4_isWithin : GoodIn wsX4_dust wsX4_isWithin := goodIn_r _ [5] rfl (by decide +kernel)
set_option maxRecDepth 20000 in
theorem gX4_dust_X4_isWithin : GoodIn wsX4_dust (va_wsS RX4 45 yX4_isWithin wsX4_isWithin) := goodIn_app (goodIn_of _ (by decide +kernel)) ggX4_dust_X4_isWithin
set_option maxRecDepth 20000 in
theorem ggX4_dust_X4_denied : GoodIn wsX4_dust wsX4_denied := goodIn_r _ [9, 10, 21, 22, 23, 24, 25] rfl (by decide +kernel)
set_option maxRecDepth 20000 in
theorem gX4_dust_X4_denied : GoodIn wsX4_dust (wsV RX4 72 RX4 yX4_denied wsX4_denied) := goodIn_app (goodIn_of _ (by decide +kernel)) ggX4_dust_X4_denied
set_option maxRecDepth 20000 in
theorem ggX4_dust_X1_setDust : GoodIn wsX4_dust wsX1_setDust := goodIn_r _ [15, 16, 26, 27, 28, 29, 30, 31, 32, 33, 34, 35, 36] rfl (by decide +kernel)
set_option maxRecDepth 20000 in
theorem gX4_dust_X1_setDust : GoodIn wsX4_dust (wsV RX4 96 RX1 yX1_setDust wsX1_setDust) := goodIn_app (goodIn_of _ (by decide +kernel)) ggX4_dust_X1_setDust
set_option maxRecDepth 20000 in
theorem ggX4_dust_X4_allowed : GoodIn wsX4_dust wsX4_allowed := goodIn_r _ [20, 10, 21, 22, 23, 24, 25] rfl (by decide +kernel)
set_option maxRecDepth 20000 in
theorem gX4_dust_X4_allowed : GoodIn wsX4_dust (wsV RX4 79 RX4 yX4_allowed wsX4_allowed) := goodIn_app (goodIn_of _ (by decide +kernel)) ggX4_dust_X4_allowed
theorem dX4_dust_0 : decode cX4_dust 0 = .ok (.iload_n 1, 1) := by decide +kernel
theorem dX4_dust_1 : decode cX4_dust 1 = .ok (.iconst 0, 1) := by decide +kernel
theorem dX4_dust_2 : decode cX4_dust 2 = .ok (.bipush 20, 2) := by decide +kernel
theorem dX4_dust_4 : decode cX4_dust 4 = .ok (.invokestatic 45, 3) := by decide +kernel
theorem dX4_dust_7 : decode cX4_dust 7 = .ok (.ifCond .ne 9, 3) := by decide +kernel
theorem dX4_dust_10 : decode cX4_dust 10 = .ok (.aload_n 0, 1) := by decide +kernel
theorem dX4_dust_11 : decode cX4_dust 11 = .ok (.iconst 2, 1) := by decide +kernel
theorem dX4_dust_12 : decode cX4_dust 12 = .ok (.invokevirtual 72, 3) := by decide +kernel
theorem dX4_dust_15 : decode cX4_dust 15 = .ok (.ireturn, 1) := by decide +kernel
theorem dX4_dust_16 : decode cX4_dust 16 = .ok (.aload_n 0, 1) := by decide +kernel
theorem dX4_dust_17 : decode cX4_dust 17 = .ok (.getfield 10, 3) := by decide +kernel
theorem dX4_dust_20 : decode cX4_dust 20 = .ok (.iload_n 1, 1) := by decide +kernel
theorem dX4_dust_21 : decode cX4_dust 21 = .ok (.invokevirtual 96, 3) := by decide +kernel
theorem dX4_dust_24 : decode cX4_dust 24 = .ok (.aload_n 0, 1) := by decide +kernel
theorem dX4_dust_25 : decode cX4_dust 25 = .ok (.invokevirtual 79, 3) := by decide +kernel
theorem dX4_dust_28 : decode cX4_dust 28 = .ok (.ireturn, 1) := by decide +kernel
set_option maxRecDepth 20000 in
theorem ggX4_shaded_X4_isMirror : GoodIn wsX4_shaded wsX4_isMirror := goodIn_r _ [6, 1, 7, 8, 9, 10, 11, 12, 13, 14, 5, 15, 34, 35, 36, 37, 38, 39, 40, 41, 42, 43, 44, 45, 46, 47, 48, 49] rfl (by decide +kernel)
set_option maxRecDepth 20000 in
theorem gX4_shaded_X4_isMirror : GoodIn wsX4_shaded (wsV RX4 100 RX4 yX4_isMirror wsX4_isMirror) := goodIn_app (goodIn_of _ (by decide +kernel)) ggX4_shaded_X4_isMirror
set_option maxRecDepth 20000 in
theorem ggX4_shaded_X4_isHour : GoodIn wsX4_shaded wsX4_isHour := goodIn_r _ [18, 13, 14, 5, 15] rfl (by decide +kernel)
set_option maxRecDepth 20000 in
theorem gX4_shaded_X4_isHour : GoodIn wsX4_shaded (va_wsS RX4 68 yX4_isHour wsX4_isHour) := goodIn_app (goodIn_of _ (by decide +kernel)) ggX4_shaded_X4_isHour
set_option maxRecDepth 20000 in
theorem ggX4_shaded_X1_blockersOf : GoodIn wsX4_shaded wsX1_blockersOf := goodIn_r _ [22, 23, 39, 40, 41, 42, 43, 44, 45, 46, 47, 48, 49] rfl (by decide +kernel)
set_option maxRecDepth 20000 in
theorem gX4_shaded_X1_blockersOf : GoodIn wsX4_shaded (wsV RX4 103 RX1 yX1_blockersOf wsX1_blockersOf) := goodIn_app (goodIn_of _ (by decide +kernel)) ggX4_shaded_X1_blockersOf
set_option maxRecDepth 20000 in
theorem ggX4_shaded_X1_shadersOf : GoodIn wsX4_shaded wsX1_shadersOf := goodIn_r _ [27, 28, 29, 30, 31, 32, 33, 39, 40, 41, 42, 43, 44, 45, 46, 47, 48, 49] rfl (by decide +kernel)
set_option maxRecDepth 20000 in
theorem gX4_shaded_X1_shadersOf : GoodIn wsX4_shaded (wsV RX4 106 RX1 yX1_shadersOf wsX1_shadersOf) := goodIn_app (goodIn_of _ (by decide +kernel)) ggX4_shaded_X1_shadersOf
theorem dX4_shaded_0 : decode cX4_shaded 0 = .ok (.aload_n 0, 1) := by decide +kernel
theorem dX4_shaded_1 : decode cX4_shaded 1 = .ok (.iload_n 1, 1) := by decide +kernel
theorem dX4_shaded_2 : decode cX4_shaded 2 = .ok (.invokevirtual 100, 3) := by decide +kernel
theorem dX4_shaded_5 : decode cX4_shaded 5 = .ok (.ifCond .eq 10, 3) := by decide +kernel
theorem dX4_shaded_8 : decode cX4_shaded 8 = .ok (.iload_n 2, 1) := by decide +kernel
theorem dX4_shaded_9 : decode cX4_shaded 9 = .ok (.invokestatic 68, 3) := by decide +kernel
theorem dX4_shaded_12 : decode cX4_shaded 12 = .ok (.ifCond .ne 5, 3) := by decide +kernel
theorem dX4_shaded_15 : decode cX4_shaded 15 = .ok (.iconst (-1), 1) := by decide +kernel
theorem dX4_shaded_16 : decode cX4_shaded 16 = .ok (.ireturn, 1) := by decide +kernel
theorem dX4_shaded_17 : decode cX4_shaded 17 = .ok (.iload_n 3, 1) := by decide +kernel
theorem dX4_shaded_18 : decode cX4_shaded 18 = .ok (.ifCond .eq 14, 3) := by decide +kernel
theorem dX4_shaded_21 : decode cX4_shaded 21 = .ok (.aload_n 0, 1) := by decide +kernel
theorem dX4_shaded_22 : decode cX4_shaded 22 = .ok (.getfield 10, 3) := by decide +kernel
theorem dX4_shaded_25 : decode cX4_shaded 25 = .ok (.iload_n 1, 1) := by decide +kernel
theorem dX4_shaded_26 : decode cX4_shaded 26 = .ok (.invokevirtual 103, 3) := by decide +kernel
theorem dX4_shaded_29 : decode cX4_shaded 29 = .ok (.goto 12, 3) := by decide +kernel
theorem dX4_shaded_32 : decode cX4_shaded 32 = .ok (.aload_n 0, 1) := by decide +kernel
theorem dX4_shaded_33 : decode cX4_shaded 33 = .ok (.getfield 10, 3) := by decide +kernel
theorem dX4_shaded_36 : decode cX4_shaded 36 = .ok (.iload_n 1, 1) := by decide +kernel
theorem dX4_shaded_37 : decode cX4_shaded 37 = .ok (.iload_n 2, 1) := by decide +kernel
theorem dX4_shaded_38 : decode cX4_shaded 38 = .ok (.invokevirtual 106, 3) := by decide +kernel
theorem dX4_shaded_41 : decode cX4_shaded 41 = .ok (.ireturn, 1) := by decide +kernel
set_option maxRecDepth 20000 in
theorem ggX4_power_X4_isMirror : GoodIn wsX4_power wsX4_isMirror := goodIn_r _ [6, 1, 7, 8, 9, 10, 11, 12, 13, 14, 5, 15, 52, 53, 54, 55, 56, 57, 58, 59, 60, 61, 62, 63, 64, 65, 66, 67] rfl (by decide +kernel)
set_option maxRecDepth 20000 in
theorem gX4_power_X4_isMirror : GoodIn wsX4_power (wsV RX4 100 RX4 yX4_isMirror wsX4_isMirror) := goodIn_app (goodIn_of _ (by decide +kernel)) ggX4_power_X4_isMirror
set_option maxRecDepth 20000 in
theorem ggX4_power_X4_isHour : GoodIn wsX4_power wsX4_isHour := goodIn_r _ [18, 13, 14, 5, 15] rfl (by decide +kernel)
set_option maxRecDepth 20000 in
theorem gX4_power_X4_isHour : GoodIn wsX4_power (va_wsS RX4 68 yX4_isHour wsX4_isHour) := goodIn_app (goodIn_of _ (by decide +kernel)) ggX4_power_X4_isHour
set_option maxRecDepth 20000 in
theorem ggX4_power_X1_powerOf : GoodIn wsX4_power wsX1_powerOf := goodIn_r _ [22, 23, 24, 25, 26, 27, 28, 29, 30, 31, 10, 32, 33, 34, 35, 36, 37, 38, 39, 40, 41, 42, 43, 44, 45, 46, 47, 48, 49, 50, 51, 57, 58, 59, 60, 61, 62, 63, 64, 65, 66, 67] rfl (by decide +kernel)
set_option maxRecDepth 20000 in
theorem gX4_power_X1_powerOf : GoodIn wsX4_power (wsV RX4 109 RX1 yX1_powerOf wsX1_powerOf) := goodIn_app (goodIn_of _ (by decide +kernel)) ggX4_power_X1_powerOf
theorem dX4_power_0 : decode cX4_power 0 = .ok (.aload_n 0, 1) := by decide +kernel
theorem dX4_power_1 : decode cX4_power 1 = .ok (.iload_n 1, 1) := by decide +kernel
theorem dX4_power_2 : decode cX4_power 2 = .ok (.invokevirtual 100, 3) := by decide +kernel
theorem dX4_power_5 : decode cX4_power 5 = .ok (.ifCond .eq 10, 3) := by decide +kernel
theorem dX4_power_8 : decode cX4_power 8 = .ok (.iload_n 2, 1) := by decide +kernel
theorem dX4_power_9 : decode cX4_power 9 = .ok (.invokestatic 68, 3) := by decide +kernel
theorem dX4_power_12 : decode cX4_power 12 = .ok (.ifCond .ne 5, 3) := by decide +kernel
theorem dX4_power_15 : decode cX4_power 15 = .ok (.iconst (-1), 1) := by decide +kernel
theorem dX4_power_16 : decode cX4_power 16 = .ok (.ireturn, 1) := by decide +kernel
theorem dX4_power_17 : decode cX4_power 17 = .ok (.aload_n 0, 1) := by decide +kernel
theorem dX4_power_18 : decode cX4_power 18 = .ok (.getfield 10, 3) := by decide +kernel
theorem dX4_power_21 : decode cX4_power 21 = .ok (.iload_n 1, 1) := by decide +kernel
theorem dX4_power_22 : decode cX4_power 22 = .ok (.iload_n 2, 1) := by decide +kernel
theorem dX4_power_23 : decode cX4_power 23 = .ok (.iconst 0, 1) := by decide +kernel
theorem dX4_power_24 : decode cX4_power 24 = .ok (.invokevirtual 109, 3) := by decide +kernel
theorem dX4_power_27 : decode cX4_power 27 = .ok (.ireturn, 1) := by decide +kernel
set_option maxRecDepth 20000 in
theorem ggX4_stowed_X4_isHour : GoodIn wsX4_stowed wsX4_isHour := goodIn_r _ [5, 6, 7, 4, 8] rfl (by decide +kernel)
set_option maxRecDepth 20000 in
theorem gX4_stowed_X4_isHour : GoodIn wsX4_stowed (va_wsS RX4 68 yX4_isHour wsX4_isHour) := goodIn_app (goodIn_of _ (by decide +kernel)) ggX4_stowed_X4_isHour
set_option maxRecDepth 20000 in
theorem ggX4_stowed_X1_isStowed : GoodIn wsX4_stowed wsX1_isStowed := goodIn_r _ [13, 14, 20, 21, 22, 23, 24, 25, 26, 27, 28, 29, 30] rfl (by decide +kernel)
set_option maxRecDepth 20000 in
theorem gX4_stowed_X1_isStowed : GoodIn wsX4_stowed (wsV RX4 113 RX1 yX1_isStowed wsX1_isStowed) := goodIn_app (goodIn_of _ (by decide +kernel)) ggX4_stowed_X1_isStowed
theorem dX4_stowed_0 : decode cX4_stowed 0 = .ok (.iload_n 1, 1) := by decide +kernel
theorem dX4_stowed_1 : decode cX4_stowed 1 = .ok (.invokestatic 68, 3) := by decide +kernel
theorem dX4_stowed_4 : decode cX4_stowed 4 = .ok (.ifCond .ne 5, 3) := by decide +kernel
theorem dX4_stowed_7 : decode cX4_stowed 7 = .ok (.iconst (-1), 1) := by decide +kernel
theorem dX4_stowed_8 : decode cX4_stowed 8 = .ok (.ireturn, 1) := by decide +kernel
theorem dX4_stowed_9 : decode cX4_stowed 9 = .ok (.aload_n 0, 1) := by decide +kernel
theorem dX4_stowed_10 : decode cX4_stowed 10 = .ok (.getfield 10, 3) := by decide +kernel
theorem dX4_stowed_13 : decode cX4_stowed 13 = .ok (.iload_n 1, 1) := by decide +kernel
theorem dX4_stowed_14 : decode cX4_stowed 14 = .ok (.invokevirtual 113, 3) := by decide +kernel
theorem dX4_stowed_17 : decode cX4_stowed 17 = .ok (.ifCond .eq 7, 3) := by decide +kernel
theorem dX4_stowed_20 : decode cX4_stowed 20 = .ok (.iconst 1, 1) := by decide +kernel
theorem dX4_stowed_21 : decode cX4_stowed 21 = .ok (.goto 4, 3) := by decide +kernel
theorem dX4_stowed_24 : decode cX4_stowed 24 = .ok (.iconst 0, 1) := by decide +kernel
theorem dX4_stowed_25 : decode cX4_stowed 25 = .ok (.ireturn, 1) := by decide +kernel
set_option maxRecDepth 20000 in
theorem ggX4_soil_X4_isMirror : GoodIn wsX4_soil wsX4_isMirror := goodIn_r _ [6, 1, 7, 8, 9, 10, 11, 12, 13, 14, 5, 15, 26, 27, 28, 29, 30, 31, 32, 33, 34, 35, 36, 37, 38, 39, 40, 41] rfl (by decide +kernel)
set_option maxRecDepth 20000 in
theorem gX4_soil_X4_isMirror : GoodIn wsX4_soil (wsV RX4 100 RX4 yX4_isMirror wsX4_isMirror) := goodIn_app (goodIn_of _ (by decide +kernel)) ggX4_soil_X4_isMirror
set_option maxRecDepth 20000 in
theorem ggX4_soil_X1_soilOf : GoodIn wsX4_soil wsX1_soilOf := goodIn_r _ [19, 20, 21, 22, 23, 24, 25, 31, 32, 33, 34, 35, 36, 37, 38, 39, 40, 41] rfl (by decide +kernel)
set_option maxRecDepth 20000 in
theorem gX4_soil_X1_soilOf : GoodIn wsX4_soil (wsV RX4 116 RX1 yX1_soilOf wsX1_soilOf) := goodIn_app (goodIn_of _ (by decide +kernel)) ggX4_soil_X1_soilOf
theorem dX4_soil_0 : decode cX4_soil 0 = .ok (.aload_n 0, 1) := by decide +kernel
theorem dX4_soil_1 : decode cX4_soil 1 = .ok (.iload_n 1, 1) := by decide +kernel
theorem dX4_soil_2 : decode cX4_soil 2 = .ok (.invokevirtual 100, 3) := by decide +kernel
theorem dX4_soil_5 : decode cX4_soil 5 = .ok (.ifCond .eq 15, 3) := by decide +kernel
theorem dX4_soil_8 : decode cX4_soil 8 = .ok (.aload_n 0, 1) := by decide +kernel
theorem dX4_soil_9 : decode cX4_soil 9 = .ok (.getfield 10, 3) := by decide +kernel
theorem dX4_soil_12 : decode cX4_soil 12 = .ok (.iload_n 1, 1) := by decide +kernel
theorem dX4_soil_13 : decode cX4_soil 13 = .ok (.iconst 0, 1) := by decide +kernel
theorem dX4_soil_14 : decode cX4_soil 14 = .ok (.invokevirtual 116, 3) := by decide +kernel
theorem dX4_soil_17 : decode cX4_soil 17 = .ok (.goto 4, 3) := by decide +kernel
theorem dX4_soil_20 : decode cX4_soil 20 = .ok (.iconst (-1), 1) := by decide +kernel
theorem dX4_soil_21 : decode cX4_soil 21 = .ok (.ireturn, 1) := by decide +kernel
set_option maxRecDepth 20000 in
theorem ggX4_wash_X4_isWithin : GoodIn wsX4_wash wsX4_isWithin := goodIn_r _ [5] rfl (by decide +kernel)
set_option maxRecDepth 20000 in
theorem gX4_wash_X4_isWithin : GoodIn wsX4_wash (va_wsS RX4 45 yX4_isWithin wsX4_isWithin) := goodIn_app (goodIn_of _ (by decide +kernel)) ggX4_wash_X4_isWithin
set_option maxRecDepth 20000 in
theorem ggX4_wash_X4_refused : GoodIn wsX4_wash wsX4_refused := goodIn_r _ [9, 10, 30, 31, 32, 33, 34] rfl (by decide +kernel)
set_option maxRecDepth 20000 in
theorem gX4_wash_X4_refused : GoodIn wsX4_wash (wsV RX4 49 RX4 yX4_refused wsX4_refused) := goodIn_app (goodIn_of _ (by decide +kernel)) ggX4_wash_X4_refused
set_option maxRecDepth 20000 in
theorem ggX4_wash_X1_washMost : GoodIn wsX4_wash wsX1_washMost := goodIn_r _ [15, 16, 17, 18, 19, 20, 21, 22, 23, 24, 14, 25, 35, 36, 37, 38, 39, 40, 41, 42, 43, 44, 45] rfl (by decide +kernel)
set_option maxRecDepth 20000 in
theorem gX4_wash_X1_washMost : GoodIn wsX4_wash (wsV RX4 119 RX1 yX1_washMost wsX1_washMost) := goodIn_app (goodIn_of _ (by decide +kernel)) ggX4_wash_X1_washMost
set_option maxRecDepth 20000 in
theorem ggX4_wash_X4_granted : GoodIn wsX4_wash wsX4_granted := goodIn_r _ [29, 10, 30, 31, 32, 33, 34] rfl (by decide +kernel)
set_option maxRecDepth 20000 in
theorem gX4_wash_X4_granted : GoodIn wsX4_wash (wsV RX4 65 RX4 yX4_granted wsX4_granted) := goodIn_app (goodIn_of _ (by decide +kernel)) ggX4_wash_X4_granted
theorem dX4_wash_0 : decode cX4_wash 0 = .ok (.iload_n 1, 1) := by decide +kernel
theorem dX4_wash_1 : decode cX4_wash 1 = .ok (.iconst 1, 1) := by decide +kernel
theorem dX4_wash_2 : decode cX4_wash 2 = .ok (.bipush 40, 2) := by decide +kernel
theorem dX4_wash_4 : decode cX4_wash 4 = .ok (.invokestatic 45, 3) := by decide +kernel
theorem dX4_wash_7 : decode cX4_wash 7 = .ok (.ifCond .ne 9, 3) := by decide +kernel
theorem dX4_wash_10 : decode cX4_wash 10 = .ok (.aload_n 0, 1) := by decide +kernel
theorem dX4_wash_11 : decode cX4_wash 11 = .ok (.iconst 2, 1) := by decide +kernel
theorem dX4_wash_12 : decode cX4_wash 12 = .ok (.invokevirtual 49, 3) := by decide +kernel
theorem dX4_wash_15 : decode cX4_wash 15 = .ok (.ireturn, 1) := by decide +kernel
theorem dX4_wash_16 : decode cX4_wash 16 = .ok (.aload_n 0, 1) := by decide +kernel
theorem dX4_wash_17 : decode cX4_wash 17 = .ok (.aload_n 0, 1) := by decide +kernel
theorem dX4_wash_18 : decode cX4_wash 18 = .ok (.getfield 10, 3) := by decide +kernel
theorem dX4_wash_21 : decode cX4_wash 21 = .ok (.iload_n 1, 1) := by decide +kernel
theorem dX4_wash_22 : decode cX4_wash 22 = .ok (.invokevirtual 119, 3) := by decide +kernel
theorem dX4_wash_25 : decode cX4_wash 25 = .ok (.invokevirtual 65, 3) := by decide +kernel
theorem dX4_wash_28 : decode cX4_wash 28 = .ok (.ireturn, 1) := by decide +kernel
set_option maxRecDepth 20000 in
theorem ggX4_aim_X4_isHour : GoodIn wsX4_aim wsX4_isHour := goodIn_r _ [5, 6, 7, 4, 8] rfl (by decide +kernel)
set_option maxRecDepth 20000 in
theorem gX4_aim_X4_isHour : GoodIn wsX4_aim (va_wsS RX4 68 yX4_isHour wsX4_isHour) := goodIn_app (goodIn_of _ (by decide +kernel)) ggX4_aim_X4_isHour
set_option maxRecDepth 20000 in
theorem ggX4_aim_X4_refused : GoodIn wsX4_aim wsX4_refused := goodIn_r _ [12, 13, 91, 92, 93, 94, 95] rfl (by decide +kernel)
set_option maxRecDepth 20000 in
theorem gX4_aim_X4_refused : GoodIn wsX4_aim (wsV RX4 49 RX4 yX4_refused wsX4_refused) := goodIn_app (goodIn_of _ (by decide +kernel)) ggX4_aim_X4_refused
set_option maxRecDepth 20000 in
theorem ggX4_aim_X0_keepAims : GoodIn wsX4_aim wsX0_keepAims := goodIn_r _ [18, 19, 20, 21, 22, 23, 24, 25, 26, 27, 28, 29, 30, 31, 32, 17, 33, 34, 35, 36, 37, 38, 39, 40, 41, 42, 43, 44, 45, 46, 47, 48, 49, 50, 51, 52, 53, 54, 55, 56, 57, 58, 59, 60, 61, 62, 63, 64, 65, 66, 67, 68, 69, 70, 71, 72, 73, 74, 75, 76, 77, 78, 79, 80, 81, 82, 83, 84, 85, 86, 96, 97, 98, 99, 100, 101, 102, 103, 104, 105, 106, 107, 108, 109, 110, 111, 112, 113, 114, 115, 116, 117] rfl (by decide +kernel)
set_option maxRecDepth 20000 in
theorem gX4_aim_X0_keepAims : GoodIn wsX4_aim (wsV RX4 122 RX0 yX0_keepAims wsX0_keepAims) := goodIn_app (goodIn_of _ (by decide +kernel)) ggX4_aim_X0_keepAims
set_option maxRecDepth 20000 in
theorem ggX4_aim_X4_granted : GoodIn wsX4_aim wsX4_granted := goodIn_r _ [90, 13, 91, 92, 93, 94, 95] rfl (by decide +kernel)
set_option maxRecDepth 20000 in
theorem gX4_aim_X4_granted : GoodIn wsX4_aim (wsV RX4 65 RX4 yX4_granted wsX4_granted) := goodIn_app (goodIn_of _ (by decide +kernel)) ggX4_aim_X4_granted
theorem dX4_aim_0 : decode cX4_aim 0 = .ok (.iload_n 1, 1) := by decide +kernel
theorem dX4_aim_1 : decode cX4_aim 1 = .ok (.invokestatic 68, 3) := by decide +kernel
theorem dX4_aim_4 : decode cX4_aim 4 = .ok (.ifCond .ne 9, 3) := by decide +kernel
theorem dX4_aim_7 : decode cX4_aim 7 = .ok (.aload_n 0, 1) := by decide +kernel
theorem dX4_aim_8 : decode cX4_aim 8 = .ok (.iconst 2, 1) := by decide +kernel
theorem dX4_aim_9 : decode cX4_aim 9 = .ok (.invokevirtual 49, 3) := by decide +kernel
theorem dX4_aim_12 : decode cX4_aim 12 = .ok (.ireturn, 1) := by decide +kernel
theorem dX4_aim_13 : decode cX4_aim 13 = .ok (.aload_n 0, 1) := by decide +kernel
theorem dX4_aim_14 : decode cX4_aim 14 = .ok (.aload_n 0, 1) := by decide +kernel
theorem dX4_aim_15 : decode cX4_aim 15 = .ok (.getfield 21, 3) := by decide +kernel
theorem dX4_aim_18 : decode cX4_aim 18 = .ok (.iload_n 1, 1) := by decide +kernel
theorem dX4_aim_19 : decode cX4_aim 19 = .ok (.invokevirtual 122, 3) := by decide +kernel
theorem dX4_aim_22 : decode cX4_aim 22 = .ok (.invokevirtual 65, 3) := by decide +kernel
theorem dX4_aim_25 : decode cX4_aim 25 = .ok (.ireturn, 1) := by decide +kernel
set_option maxRecDepth 20000 in
theorem ggX4_aimed_X4_isMirror : GoodIn wsX4_aimed wsX4_isMirror := goodIn_r _ [6, 7, 8, 9, 10, 11, 12, 13, 14, 15, 5, 16, 24, 25, 26, 27, 28, 29, 30, 31, 32, 33, 34, 35, 36, 37, 38, 39] rfl (by decide +kernel)
set_option maxRecDepth 20000 in
theorem gX4_aimed_X4_isMirror : GoodIn wsX4_aimed (wsV RX4 100 RX4 yX4_isMirror wsX4_isMirror) := goodIn_app (goodIn_of _ (by decide +kernel)) ggX4_aimed_X4_isMirror
set_option maxRecDepth 20000 in
theorem ggX4_aimed_X0_keptCellOf : GoodIn wsX4_aimed wsX0_keptCellOf := goodIn_r _ [21, 22, 23, 40, 41, 42, 43, 44, 45, 46, 47, 48, 49, 50] rfl (by decide +kernel)
set_option maxRecDepth 20000 in
theorem gX4_aimed_X0_keptCellOf : GoodIn wsX4_aimed (wsV RX4 125 RX0 yX0_keptCellOf wsX0_keptCellOf) := goodIn_app (goodIn_of _ (by decide +kernel)) ggX4_aimed_X0_keptCellOf
theorem dX4_aimed_0 : decode cX4_aimed 0 = .ok (.aload_n 0, 1) := by decide +kernel
theorem dX4_aimed_1 : decode cX4_aimed 1 = .ok (.iload_n 1, 1) := by decide +kernel
theorem dX4_aimed_2 : decode cX4_aimed 2 = .ok (.invokevirtual 100, 3) := by decide +kernel
theorem dX4_aimed_5 : decode cX4_aimed 5 = .ok (.ifCond .eq 14, 3) := by decide +kernel
theorem dX4_aimed_8 : decode cX4_aimed 8 = .ok (.aload_n 0, 1) := by decide +kernel
theorem dX4_aimed_9 : decode cX4_aimed 9 = .ok (.getfield 21, 3) := by decide +kernel
theorem dX4_aimed_12 : decode cX4_aimed 12 = .ok (.iload_n 1, 1) := by decide +kernel
theorem dX4_aimed_13 : decode cX4_aimed 13 = .ok (.invokevirtual 125, 3) := by decide +kernel
theorem dX4_aimed_16 : decode cX4_aimed 16 = .ok (.goto 4, 3) := by decide +kernel
theorem dX4_aimed_19 : decode cX4_aimed 19 = .ok (.iconst (-1), 1) := by decide +kernel
theorem dX4_aimed_20 : decode cX4_aimed 20 = .ok (.ireturn, 1) := by decide +kernel
set_option maxRecDepth 20000 in
theorem ggX4_face_X4_isCell : GoodIn wsX4_face wsX4_isCell := goodIn_r _ [5, 6, 7, 4, 8] rfl (by decide +kernel)
set_option maxRecDepth 20000 in
theorem gX4_face_X4_isCell : GoodIn wsX4_face (va_wsS RX4 83 yX4_isCell wsX4_isCell) := goodIn_app (goodIn_of _ (by decide +kernel)) ggX4_face_X4_isCell
set_option maxRecDepth 20000 in
theorem ggX4_face_X0_keptPowerAt : GoodIn wsX4_face wsX0_keptPowerAt := goodIn_r _ [13, 14, 20, 21, 22, 23, 24, 25, 26, 27, 28, 29, 30] rfl (by decide +kernel)
set_option maxRecDepth 20000 in
theorem gX4_face_X0_keptPowerAt : GoodIn wsX4_face (wsV RX4 128 RX0 yX0_keptPowerAt wsX0_keptPowerAt) := goodIn_app (goodIn_of _ (by decide +kernel)) ggX4_face_X0_keptPowerAt
theorem dX4_face_0 : decode cX4_face 0 = .ok (.iload_n 1, 1) := by decide +kernel
theorem dX4_face_1 : decode cX4_face 1 = .ok (.invokestatic 83, 3) := by decide +kernel
theorem dX4_face_4 : decode cX4_face 4 = .ok (.ifCond .eq 14, 3) := by decide +kernel
theorem dX4_face_7 : decode cX4_face 7 = .ok (.aload_n 0, 1) := by decide +kernel
theorem dX4_face_8 : decode cX4_face 8 = .ok (.getfield 21, 3) := by decide +kernel
theorem dX4_face_11 : decode cX4_face 11 = .ok (.iload_n 1, 1) := by decide +kernel
theorem dX4_face_12 : decode cX4_face 12 = .ok (.invokevirtual 128, 3) := by decide +kernel
theorem dX4_face_15 : decode cX4_face 15 = .ok (.goto 4, 3) := by decide +kernel
theorem dX4_face_18 : decode cX4_face 18 = .ok (.iconst (-1), 1) := by decide +kernel
theorem dX4_face_19 : decode cX4_face 19 = .ok (.ireturn, 1) := by decide +kernel
set_option maxRecDepth 20000 in
theorem ggX4_best_X4_isHour : GoodIn wsX4_best wsX4_isHour := goodIn_r _ [5, 6, 7, 4, 8] rfl (by decide +kernel)
set_option maxRecDepth 20000 in
theorem gX4_best_X4_isHour : GoodIn wsX4_best (va_wsS RX4 68 yX4_isHour wsX4_isHour) := goodIn_app (goodIn_of _ (by decide +kernel)) ggX4_best_X4_isHour
set_option maxRecDepth 20000 in
theorem ggX4_best_X4_refused : GoodIn wsX4_best wsX4_refused := goodIn_r _ [12, 13, 86, 87, 88, 89, 90] rfl (by decide +kernel)
set_option maxRecDepth 20000 in
theorem gX4_best_X4_refused : GoodIn wsX4_best (wsV RX4 49 RX4 yX4_refused wsX4_refused) := goodIn_app (goodIn_of _ (by decide +kernel)) ggX4_best_X4_refused
set_option maxRecDepth 20000 in
theorem ggX4_best_X0_bestHeat : GoodIn wsX4_best wsX0_bestHeat := goodIn_r _ [18, 19, 20, 21, 22, 23, 24, 25, 26, 27, 28, 29, 30, 31, 32, 17, 33, 34, 35, 36, 37, 38, 39, 40, 41, 42, 43, 44, 45, 46, 47, 48, 49, 50, 51, 52, 53, 54, 55, 56, 57, 58, 59, 60, 61, 62, 63, 64, 65, 66, 67, 68, 69, 70, 71, 72, 73, 74, 75, 76, 77, 78, 79, 80, 81, 91, 92, 93, 94, 95, 96, 97, 98, 99, 100, 101, 102, 103, 104, 105, 106, 107, 108, 109, 110, 111, 112] rfl (by decide +kernel)
set_option maxRecDepth 20000 in
theorem gX4_best_X0_bestHeat : GoodIn wsX4_best (wsV RX4 131 RX0 yX0_bestHeat wsX0_bestHeat) := goodIn_app (goodIn_of _ (by decide +kernel)) ggX4_best_X0_bestHeat
set_option maxRecDepth 20000 in
theorem ggX4_best_X4_granted : GoodIn wsX4_best wsX4_granted := goodIn_r _ [85, 13, 86, 87, 88, 89, 90] rfl (by decide +kernel)
set_option maxRecDepth 20000 in
theorem gX4_best_X4_granted : GoodIn wsX4_best (wsV RX4 65 RX4 yX4_granted wsX4_granted) := goodIn_app (goodIn_of _ (by decide +kernel)) ggX4_best_X4_granted
theorem dX4_best_0 : decode cX4_best 0 = .ok (.iload_n 1, 1) := by decide +kernel
theorem dX4_best_1 : decode cX4_best 1 = .ok (.invokestatic 68, 3) := by decide +kernel
theorem dX4_best_4 : decode cX4_best 4 = .ok (.ifCond .ne 9, 3) := by decide +kernel
theorem dX4_best_7 : decode cX4_best 7 = .ok (.aload_n 0, 1) := by decide +kernel
theorem dX4_best_8 : decode cX4_best 8 = .ok (.iconst 2, 1) := by decide +kernel
theorem dX4_best_9 : decode cX4_best 9 = .ok (.invokevirtual 49, 3) := by decide +kernel
theorem dX4_best_12 : decode cX4_best 12 = .ok (.ireturn, 1) := by decide +kernel
theorem dX4_best_13 : decode cX4_best 13 = .ok (.aload_n 0, 1) := by decide +kernel
theorem dX4_best_14 : decode cX4_best 14 = .ok (.aload_n 0, 1) := by decide +kernel
theorem dX4_best_15 : decode cX4_best 15 = .ok (.getfield 21, 3) := by decide +kernel
theorem dX4_best_18 : decode cX4_best 18 = .ok (.iload_n 1, 1) := by decide +kernel
theorem dX4_best_19 : decode cX4_best 19 = .ok (.invokevirtual 131, 3) := by decide +kernel
theorem dX4_best_22 : decode cX4_best 22 = .ok (.invokevirtual 65, 3) := by decide +kernel
theorem dX4_best_25 : decode cX4_best 25 = .ok (.ireturn, 1) := by decide +kernel
set_option maxRecDepth 20000 in
theorem ggX4_comes_X3_hourNow : GoodIn wsX4_comes wsX3_hourNow := goodIn_r _ [7, 8, 84, 85, 86, 87, 88, 89, 90, 91, 92, 93, 94, 95, 96, 97] rfl (by decide +kernel)
set_option maxRecDepth 20000 in
theorem gX4_comes_X3_hourNow : GoodIn wsX4_comes (wsV RX4 134 RX3 yX3_hourNow wsX3_hourNow) := goodIn_app (goodIn_of _ (by decide +kernel)) ggX4_comes_X3_hourNow
set_option maxRecDepth 20000 in
theorem ggX4_comes_X4_isWithin : GoodIn wsX4_comes wsX4_isWithin := goodIn_r _ [12] rfl (by decide +kernel)
set_option maxRecDepth 20000 in
theorem gX4_comes_X4_isWithin : GoodIn wsX4_comes (va_wsS RX4 45 yX4_isWithin wsX4_isWithin) := goodIn_app (goodIn_of _ (by decide +kernel)) ggX4_comes_X4_isWithin
set_option maxRecDepth 20000 in
theorem ggX4_comes_X0_aimAll : GoodIn wsX4_comes wsX0_aimAll := goodIn_r _ [17, 18, 19, 20, 21, 22, 23, 24, 25, 26, 27, 28, 29, 30, 16, 31, 32, 33, 34, 35, 36, 37, 38, 39, 40, 41, 42, 43, 44, 45, 46, 47, 48, 49, 50, 51, 52, 53, 54, 55, 56, 57, 58, 59, 60, 61, 62, 63, 64, 65, 66, 67, 68, 69, 70, 71, 72, 73, 74, 75, 76, 77, 78, 98, 99, 100, 101, 102, 103, 104, 105, 106, 107, 108, 109, 110, 111, 112, 113, 114, 115, 116, 117, 118, 119] rfl (by decide +kernel)
set_option maxRecDepth 20000 in
theorem gX4_comes_X0_aimAll : GoodIn wsX4_comes (wsV RX4 137 RX0 yX0_aimAll wsX0_aimAll) := goodIn_app (goodIn_of _ (by decide +kernel)) ggX4_comes_X0_aimAll
theorem dX4_comes_0 : decode cX4_comes 0 = .ok (.aload_n 0, 1) := by decide +kernel
theorem dX4_comes_1 : decode cX4_comes 1 = .ok (.getfield 30, 3) := by decide +kernel
theorem dX4_comes_4 : decode cX4_comes 4 = .ok (.invokevirtual 134, 3) := by decide +kernel
theorem dX4_comes_7 : decode cX4_comes 7 = .ok (.istore_n 2, 1) := by decide +kernel
theorem dX4_comes_8 : decode cX4_comes 8 = .ok (.iload_n 1, 1) := by decide +kernel
theorem dX4_comes_9 : decode cX4_comes 9 = .ok (.iload_n 2, 1) := by decide +kernel
theorem dX4_comes_10 : decode cX4_comes 10 = .ok (.bipush 23, 2) := by decide +kernel
theorem dX4_comes_12 : decode cX4_comes 12 = .ok (.invokestatic 45, 3) := by decide +kernel
theorem dX4_comes_15 : decode cX4_comes 15 = .ok (.ifCond .ne 5, 3) := by decide +kernel
theorem dX4_comes_18 : decode cX4_comes 18 = .ok (.iconst (-1), 1) := by decide +kernel
theorem dX4_comes_19 : decode cX4_comes 19 = .ok (.ireturn, 1) := by decide +kernel
theorem dX4_comes_20 : decode cX4_comes 20 = .ok (.aload_n 0, 1) := by decide +kernel
theorem dX4_comes_21 : decode cX4_comes 21 = .ok (.getfield 21, 3) := by decide +kernel
theorem dX4_comes_24 : decode cX4_comes 24 = .ok (.iload_n 1, 1) := by decide +kernel
theorem dX4_comes_25 : decode cX4_comes 25 = .ok (.iload_n 1, 1) := by decide +kernel
theorem dX4_comes_26 : decode cX4_comes 26 = .ok (.iload_n 2, 1) := by decide +kernel
theorem dX4_comes_27 : decode cX4_comes 27 = .ok (.isub, 1) := by decide +kernel
theorem dX4_comes_28 : decode cX4_comes 28 = .ok (.invokevirtual 137, 3) := by decide +kernel
theorem dX4_comes_31 : decode cX4_comes 31 = .ok (.ireturn, 1) := by decide +kernel
set_option maxRecDepth 20000 in
theorem ggX4_plan_X3_layPlan : GoodIn wsX4_plan wsX3_layPlan := goodIn_r _ [6, 7, 8, 9, 10, 11, 12, 13, 14, 15, 5, 16, 17, 18, 19, 20, 21, 22, 23, 24, 25, 26, 27, 28, 29, 30, 31, 32, 33, 34, 35, 36, 37, 38, 39, 40, 41, 42, 43, 44, 45, 46, 47, 48, 49, 50, 51, 52, 53, 54, 55, 56, 57, 58, 59, 60, 61, 62, 63, 64, 65, 66, 67, 68, 69, 70, 71, 72, 73, 74, 75, 76, 77, 78, 79, 80, 81, 82, 83, 84, 85, 86, 87, 88, 89, 90, 91, 92, 93, 94, 95, 96, 97, 98, 99, 100, 101, 102, 103, 104, 105, 106, 107, 108, 109, 110, 111, 112, 113, 114, 115, 116, 117, 118, 124, 125, 126, 127, 128, 129, 130, 131, 132, 133, 134, 135, 136, 137, 138, 139, 140, 141, 142, 143, 144, 145, 146, 147, 148, 149, 150, 151, 152, 153, 154, 155, 156, 157, 158, 159] rfl (by decide +kernel)
set_option maxRecDepth 20000 in
theorem gX4_plan_X3_layPlan : GoodIn wsX4_plan (wsV RX4 140 RX3 yX3_layPlan wsX3_layPlan) := goodIn_app (goodIn_of _ (by decide +kernel)) ggX4_plan_X3_layPlan
theorem dX4_plan_0 : decode cX4_plan 0 = .ok (.aload_n 0, 1) := by decide +kernel
theorem dX4_plan_1 : decode cX4_plan 1 = .ok (.getfield 30, 3) := by decide +kernel
theorem dX4_plan_4 : decode cX4_plan 4 = .ok (.invokevirtual 140, 3) := by decide +kernel
theorem dX4_plan_7 : decode cX4_plan 7 = .ok (.ireturn, 1) := by decide +kernel
set_option maxRecDepth 20000 in
theorem ggX4_runs_X4_isHour : GoodIn wsX4_runs wsX4_isHour := goodIn_r _ [5, 6, 7, 4, 8] rfl (by decide +kernel)
set_option maxRecDepth 20000 in
theorem gX4_runs_X4_isHour : GoodIn wsX4_runs (va_wsS RX4 68 yX4_isHour wsX4_isHour) := goodIn_app (goodIn_of _ (by decide +kernel)) ggX4_runs_X4_isHour
set_option maxRecDepth 20000 in
theorem ggX4_runs_X3_plannedRun : GoodIn wsX4_runs wsX3_plannedRun := goodIn_r _ [13, 14, 15, 21, 22, 23, 24, 25, 26, 27, 28, 29, 30, 31, 32, 33, 34] rfl (by decide +kernel)
set_option maxRecDepth 20000 in
theorem gX4_runs_X3_plannedRun : GoodIn wsX4_runs (wsV RX4 143 RX3 yX3_plannedRun wsX3_plannedRun) := goodIn_app (goodIn_of _ (by decide +kernel)) ggX4_runs_X3_plannedRun
theorem dX4_runs_0 : decode cX4_runs 0 = .ok (.iload_n 1, 1) := by decide +kernel
theorem dX4_runs_1 : decode cX4_runs 1 = .ok (.invokestatic 68, 3) := by decide +kernel
theorem dX4_runs_4 : decode cX4_runs 4 = .ok (.ifCond .eq 14, 3) := by decide +kernel
theorem dX4_runs_7 : decode cX4_runs 7 = .ok (.aload_n 0, 1) := by decide +kernel
theorem dX4_runs_8 : decode cX4_runs 8 = .ok (.getfield 30, 3) := by decide +kernel
theorem dX4_runs_11 : decode cX4_runs 11 = .ok (.iload_n 1, 1) := by decide +kernel
theorem dX4_runs_12 : decode cX4_runs 12 = .ok (.invokevirtual 143, 3) := by decide +kernel
theorem dX4_runs_15 : decode cX4_runs 15 = .ok (.goto 4, 3) := by decide +kernel
theorem dX4_runs_18 : decode cX4_runs 18 = .ok (.iconst (-1), 1) := by decide +kernel
theorem dX4_runs_19 : decode cX4_runs 19 = .ok (.ireturn, 1) := by decide +kernel
set_option maxRecDepth 20000 in
theorem ggX4_step_X3_passHour : GoodIn wsX4_step wsX3_passHour := goodIn_r _ [6, 7, 8, 9, 10, 11, 12, 13, 14, 15, 16, 17, 18, 19, 20, 21, 22, 23, 24, 25, 26, 27, 28, 29, 30, 31, 32, 33, 34, 35, 36, 37, 38, 39, 40, 41, 42, 43, 44, 45, 46, 47, 48, 49, 50, 51, 52, 53, 54, 55, 56, 57, 58, 59, 60, 61, 62, 63, 64, 65, 66, 67, 68, 69, 70, 71, 72, 73, 74, 75, 76, 77, 78, 79, 80, 5, 81, 82, 83, 84, 85, 86, 87, 88, 89, 90, 91, 92, 93, 94, 110, 111, 112, 113, 114, 115, 116, 117, 118, 119, 120, 121, 122, 123, 124, 125, 126, 127, 128, 129, 130, 131, 132, 133, 134, 135, 136, 137, 138, 139, 140, 141, 142, 143, 144, 145] rfl (by decide +kernel)
set_option maxRecDepth 20000 in
theorem gX4_step_X3_passHour : GoodIn wsX4_step (wsV RX4 146 RX3 yX3_passHour wsX3_passHour) := goodIn_app (goodIn_of _ (by decide +kernel)) ggX4_step_X3_passHour
set_option maxRecDepth 20000 in
theorem ggX4_step_X4_refused : GoodIn wsX4_step wsX4_refused := goodIn_r _ [99, 100, 105, 106, 107, 108, 109] rfl (by decide +kernel)
set_option maxRecDepth 20000 in
theorem gX4_step_X4_refused : GoodIn wsX4_step (wsV RX4 49 RX4 yX4_refused wsX4_refused) := goodIn_app (goodIn_of _ (by decide +kernel)) ggX4_step_X4_refused
set_option maxRecDepth 20000 in
theorem ggX4_step_X4_granted : GoodIn wsX4_step wsX4_granted := goodIn_r _ [104, 100, 105, 106, 107, 108, 109] rfl (by decide +kernel)
set_option maxRecDepth 20000 in
theorem gX4_step_X4_granted : GoodIn wsX4_step (wsV RX4 65 RX4 yX4_granted wsX4_granted) := goodIn_app (goodIn_of _ (by decide +kernel)) ggX4_step_X4_granted
theorem dX4_step_0 : decode cX4_step 0 = .ok (.aload_n 0, 1) := by decide +kernel
theorem dX4_step_1 : decode cX4_step 1 = .ok (.getfield 30, 3) := by decide +kernel
theorem dX4_step_4 : decode cX4_step 4 = .ok (.iload_n 1, 1) := by decide +kernel
theorem dX4_step_5 : decode cX4_step 5 = .ok (.invokevirtual 146, 3) := by decide +kernel
theorem dX4_step_8 : decode cX4_step 8 = .ok (.istore_n 2, 1) := by decide +kernel
theorem dX4_step_9 : decode cX4_step 9 = .ok (.iload_n 2, 1) := by decide +kernel
theorem dX4_step_10 : decode cX4_step 10 = .ok (.iconst (-1), 1) := by decide +kernel
theorem dX4_step_11 : decode cX4_step 11 = .ok (.if_icmp .ne 11, 3) := by decide +kernel
theorem dX4_step_14 : decode cX4_step 14 = .ok (.aload_n 0, 1) := by decide +kernel
theorem dX4_step_15 : decode cX4_step 15 = .ok (.iconst 2, 1) := by decide +kernel
theorem dX4_step_16 : decode cX4_step 16 = .ok (.invokevirtual 49, 3) := by decide +kernel
theorem dX4_step_19 : decode cX4_step 19 = .ok (.goto 8, 3) := by decide +kernel
theorem dX4_step_22 : decode cX4_step 22 = .ok (.aload_n 0, 1) := by decide +kernel
theorem dX4_step_23 : decode cX4_step 23 = .ok (.iload_n 2, 1) := by decide +kernel
theorem dX4_step_24 : decode cX4_step 24 = .ok (.invokevirtual 65, 3) := by decide +kernel
theorem dX4_step_27 : decode cX4_step 27 = .ok (.ireturn, 1) := by decide +kernel
set_option maxRecDepth 20000 in
theorem ggX4_earned_X3_earnedInAll : GoodIn wsX4_earned wsX3_earnedInAll := goodIn_r _ [6, 7, 13, 14, 15, 16, 17, 18, 19, 20, 21, 22, 23, 24, 25, 26] rfl (by decide +kernel)
set_option maxRecDepth 20000 in
theorem gX4_earned_X3_earnedInAll : GoodIn wsX4_earned (wsV RX4 150 RX3 yX3_earnedInAll wsX3_earnedInAll) := goodIn_app (goodIn_of _ (by decide +kernel)) ggX4_earned_X3_earnedInAll
theorem dX4_earned_0 : decode cX4_earned 0 = .ok (.aload_n 0, 1) := by decide +kernel
theorem dX4_earned_1 : decode cX4_earned 1 = .ok (.getfield 30, 3) := by decide +kernel
theorem dX4_earned_4 : decode cX4_earned 4 = .ok (.invokevirtual 150, 3) := by decide +kernel
theorem dX4_earned_7 : decode cX4_earned 7 = .ok (.ireturn, 1) := by decide +kernel
set_option maxRecDepth 20000 in
theorem ggX4_shot_J13_bitCount_95d88 : GoodIn wsX4_shot wsJ13_bitCount_95d88 := goodIn_r _ [11, 12, 13, 14] rfl (by decide +kernel)
set_option maxRecDepth 20000 in
theorem gX4_shot_J13_bitCount_95d88 : GoodIn wsX4_shot (va_wsS RX4 155 yJ13_bitCount_95d88 wsJ13_bitCount_95d88) := goodIn_app (goodIn_of _ (by decide +kernel)) ggX4_shot_J13_bitCount_95d88
set_option maxRecDepth 20000 in
theorem ggX4_shot_X4_isWithin : GoodIn wsX4_shot wsX4_isWithin := goodIn_r _ [18] rfl (by decide +kernel)
set_option maxRecDepth 20000 in
theorem gX4_shot_X4_isWithin : GoodIn wsX4_shot (va_wsS RX4 45 yX4_isWithin wsX4_isWithin) := goodIn_app (goodIn_of _ (by decide +kernel)) ggX4_shot_X4_isWithin
set_option maxRecDepth 20000 in
theorem ggX4_shot_X4_refused : GoodIn wsX4_shot wsX4_refused := goodIn_r _ [22, 23, 48, 49, 50, 51, 52] rfl (by decide +kernel)
set_option maxRecDepth 20000 in
theorem gX4_shot_X4_refused : GoodIn wsX4_shot (wsV RX4 49 RX4 yX4_refused wsX4_refused) := goodIn_app (goodIn_of _ (by decide +kernel)) ggX4_shot_X4_refused
set_option maxRecDepth 20000 in
theorem ggX4_shot_X1_size : GoodIn wsX4_shot wsX1_size := goodIn_r _ [28, 29, 53, 54, 55, 56, 57, 58, 59, 60, 61, 62, 63] rfl (by decide +kernel)
set_option maxRecDepth 20000 in
theorem gX4_shot_X1_size : GoodIn wsX4_shot (wsV RX4 57 RX1 yX1_size wsX1_size) := goodIn_app (goodIn_of _ (by decide +kernel)) ggX4_shot_X1_size
set_option maxRecDepth 20000 in
theorem ggX4_shot_X2_size : GoodIn wsX4_shot wsX2_size := goodIn_r _ [34, 35, 64, 65, 66, 67, 68] rfl (by decide +kernel)
set_option maxRecDepth 20000 in
theorem gX4_shot_X2_size : GoodIn wsX4_shot (wsV RX4 166 RX2 yX2_size wsX2_size) := goodIn_app (goodIn_of _ (by decide +kernel)) ggX4_shot_X2_size
set_option maxRecDepth 20000 in
theorem ggX4_shot_X2_note : GoodIn wsX4_shot wsX2_note := goodIn_r _ [39, 35, 40, 41, 42, 3, 4, 5, 43, 9, 10, 11, 12, 13, 14, 64, 65, 66, 67, 68] rfl (by decide +kernel)
set_option maxRecDepth 20000 in
theorem gX4_shot_X2_note : GoodIn wsX4_shot (wsV RX4 167 RX2 yX2_note wsX2_note) := goodIn_app (goodIn_of _ (by decide +kernel)) ggX4_shot_X2_note
set_option maxRecDepth 20000 in
theorem ggX4_shot_X4_granted : GoodIn wsX4_shot wsX4_granted := goodIn_r _ [47, 23, 48, 49, 50, 51, 52] rfl (by decide +kernel)
set_option maxRecDepth 20000 in
theorem gX4_shot_X4_granted : GoodIn wsX4_shot (wsV RX4 65 RX4 yX4_granted wsX4_granted) := goodIn_app (goodIn_of _ (by decide +kernel)) ggX4_shot_X4_granted
theorem dX4_shot_0 : decode cX4_shot 0 = .ok (.iload_n 2, 1) := by decide +kernel
theorem dX4_shot_1 : decode cX4_shot 1 = .ok (.i2l, 1) := by decide +kernel
theorem dX4_shot_2 : decode cX4_shot 2 = .ok (.bipush 32, 2) := by decide +kernel
theorem dX4_shot_4 : decode cX4_shot 4 = .ok (.lshl, 1) := by decide +kernel
theorem dX4_shot_5 : decode cX4_shot 5 = .ok (.iload_n 1, 1) := by decide +kernel
theorem dX4_shot_6 : decode cX4_shot 6 = .ok (.i2l, 1) := by decide +kernel
theorem dX4_shot_7 : decode cX4_shot 7 = .ok (.ldc2_w 153, 3) := by decide +kernel
theorem dX4_shot_10 : decode cX4_shot 10 = .ok (.land, 1) := by decide +kernel
theorem dX4_shot_11 : decode cX4_shot 11 = .ok (.lor, 1) := by decide +kernel
theorem dX4_shot_12 : decode cX4_shot 12 = .ok (.lstore 4, 2) := by decide +kernel
theorem dX4_shot_14 : decode cX4_shot 14 = .ok (.iload_n 3, 1) := by decide +kernel
theorem dX4_shot_15 : decode cX4_shot 15 = .ok (.iconst 0, 1) := by decide +kernel
theorem dX4_shot_16 : decode cX4_shot 16 = .ok (.bipush 40, 2) := by decide +kernel
theorem dX4_shot_18 : decode cX4_shot 18 = .ok (.lload 4, 2) := by decide +kernel
theorem dX4_shot_20 : decode cX4_shot 20 = .ok (.invokestatic 155, 3) := by decide +kernel
theorem dX4_shot_23 : decode cX4_shot 23 = .ok (.invokestatic 161, 3) := by decide +kernel
theorem dX4_shot_26 : decode cX4_shot 26 = .ok (.invokestatic 45, 3) := by decide +kernel
theorem dX4_shot_29 : decode cX4_shot 29 = .ok (.ifCond .ne 9, 3) := by decide +kernel
theorem dX4_shot_32 : decode cX4_shot 32 = .ok (.aload_n 0, 1) := by decide +kernel
theorem dX4_shot_33 : decode cX4_shot 33 = .ok (.iconst 2, 1) := by decide +kernel
theorem dX4_shot_34 : decode cX4_shot 34 = .ok (.invokevirtual 49, 3) := by decide +kernel
theorem dX4_shot_37 : decode cX4_shot 37 = .ok (.ireturn, 1) := by decide +kernel
theorem dX4_shot_38 : decode cX4_shot 38 = .ok (.lload 4, 2) := by decide +kernel
theorem dX4_shot_40 : decode cX4_shot 40 = .ok (.lconst 0, 1) := by decide +kernel
theorem dX4_shot_41 : decode cX4_shot 41 = .ok (.lcmp, 1) := by decide +kernel
theorem dX4_shot_42 : decode cX4_shot 42 = .ok (.ifCond .eq 18, 3) := by decide +kernel
theorem dX4_shot_45 : decode cX4_shot 45 = .ok (.lload 4, 2) := by decide +kernel
theorem dX4_shot_47 : decode cX4_shot 47 = .ok (.aload_n 0, 1) := by decide +kernel
theorem dX4_shot_48 : decode cX4_shot 48 = .ok (.getfield 10, 3) := by decide +kernel
theorem dX4_shot_51 : decode cX4_shot 51 = .ok (.invokevirtual 57, 3) := by decide +kernel
theorem dX4_shot_54 : decode cX4_shot 54 = .ok (.lushr, 1) := by decide +kernel
theorem dX4_shot_55 : decode cX4_shot 55 = .ok (.lconst 0, 1) := by decide +kernel
theorem dX4_shot_56 : decode cX4_shot 56 = .ok (.lcmp, 1) := by decide +kernel
theorem dX4_shot_57 : decode cX4_shot 57 = .ok (.ifCond .eq 9, 3) := by decide +kernel
theorem dX4_shot_60 : decode cX4_shot 60 = .ok (.aload_n 0, 1) := by decide +kernel
theorem dX4_shot_61 : decode cX4_shot 61 = .ok (.iconst 4, 1) := by decide +kernel
theorem dX4_shot_62 : decode cX4_shot 62 = .ok (.invokevirtual 49, 3) := by decide +kernel
theorem dX4_shot_65 : decode cX4_shot 65 = .ok (.ireturn, 1) := by decide +kernel
theorem dX4_shot_66 : decode cX4_shot 66 = .ok (.aload_n 0, 1) := by decide +kernel
theorem dX4_shot_67 : decode cX4_shot 67 = .ok (.getfield 37, 3) := by decide +kernel
theorem dX4_shot_70 : decode cX4_shot 70 = .ok (.invokevirtual 166, 3) := by decide +kernel
theorem dX4_shot_73 : decode cX4_shot 73 = .ok (.bipush 12, 2) := by decide +kernel
theorem dX4_shot_75 : decode cX4_shot 75 = .ok (.if_icmp .lt 9, 3) := by decide +kernel
theorem dX4_shot_78 : decode cX4_shot 78 = .ok (.aload_n 0, 1) := by decide +kernel
theorem dX4_shot_79 : decode cX4_shot 79 = .ok (.iconst 3, 1) := by decide +kernel
theorem dX4_shot_80 : decode cX4_shot 80 = .ok (.invokevirtual 49, 3) := by decide +kernel
theorem dX4_shot_83 : decode cX4_shot 83 = .ok (.ireturn, 1) := by decide +kernel
theorem dX4_shot_84 : decode cX4_shot 84 = .ok (.aload_n 0, 1) := by decide +kernel
theorem dX4_shot_85 : decode cX4_shot 85 = .ok (.aload_n 0, 1) := by decide +kernel
theorem dX4_shot_86 : decode cX4_shot 86 = .ok (.getfield 37, 3) := by decide +kernel
theorem dX4_shot_89 : decode cX4_shot 89 = .ok (.lload 4, 2) := by decide +kernel
theorem dX4_shot_91 : decode cX4_shot 91 = .ok (.iload_n 3, 1) := by decide +kernel
theorem dX4_shot_92 : decode cX4_shot 92 = .ok (.invokevirtual 167, 3) := by decide +kernel
theorem dX4_shot_95 : decode cX4_shot 95 = .ok (.invokevirtual 65, 3) := by decide +kernel
theorem dX4_shot_98 : decode cX4_shot 98 = .ok (.ireturn, 1) := by decide +kernel
set_option maxRecDepth 20000 in
theorem ggX4_forget_X2_drop : GoodIn wsX4_forget wsX2_drop := goodIn_r _ [6, 7, 8, 9, 10, 11, 12, 13, 19, 20, 21, 22, 23] rfl (by decide +kernel)
set_option maxRecDepth 20000 in
theorem gX4_forget_X2_drop : GoodIn wsX4_forget (wsV RX4 171 RX2 yX2_drop wsX2_drop) := goodIn_app (goodIn_of _ (by decide +kernel)) ggX4_forget_X2_drop
theorem dX4_forget_0 : decode cX4_forget 0 = .ok (.aload_n 0, 1) := by decide +kernel
theorem dX4_forget_1 : decode cX4_forget 1 = .ok (.getfield 37, 3) := by decide +kernel
theorem dX4_forget_4 : decode cX4_forget 4 = .ok (.invokevirtual 171, 3) := by decide +kernel
theorem dX4_forget_7 : decode cX4_forget 7 = .ok (.ireturn, 1) := by decide +kernel
set_option maxRecDepth 20000 in
theorem ggX4_agree_X1_size : GoodIn wsX4_agree wsX1_size := goodIn_r _ [7, 8, 31, 32, 33, 34, 35, 36, 37, 38, 39, 40, 41] rfl (by decide +kernel)
set_option maxRecDepth 20000 in
theorem gX4_agree_X1_size : GoodIn wsX4_agree (wsV RX4 57 RX1 yX1_size wsX1_size) := goodIn_app (goodIn_of _ (by decide +kernel)) ggX4_agree_X1_size
set_option maxRecDepth 20000 in
theorem ggX4_agree_X2_setsOf : GoodIn wsX4_agree wsX2_setsOf := goodIn_r _ [13, 14, 15, 16, 17, 12, 18, 19, 20, 21, 22, 23, 24, 25, 42, 43, 44, 45, 46] rfl (by decide +kernel)
set_option maxRecDepth 20000 in
theorem gX4_agree_X2_setsOf : GoodIn wsX4_agree (wsV RX4 174 RX2 yX2_setsOf wsX2_setsOf) := goodIn_app (goodIn_of _ (by decide +kernel)) ggX4_agree_X2_setsOf
theorem dX4_agree_0 : decode cX4_agree 0 = .ok (.aload_n 0, 1) := by decide +kernel
theorem dX4_agree_1 : decode cX4_agree 1 = .ok (.getfield 37, 3) := by decide +kernel
theorem dX4_agree_4 : decode cX4_agree 4 = .ok (.aload_n 0, 1) := by decide +kernel
theorem dX4_agree_5 : decode cX4_agree 5 = .ok (.getfield 10, 3) := by decide +kernel
theorem dX4_agree_8 : decode cX4_agree 8 = .ok (.invokevirtual 57, 3) := by decide +kernel
theorem dX4_agree_11 : decode cX4_agree 11 = .ok (.invokevirtual 174, 3) := by decide +kernel
theorem dX4_agree_14 : decode cX4_agree 14 = .ok (.ireturn, 1) := by decide +kernel
set_option maxRecDepth 20000 in
theorem ggX4_stuck_X4_isMirror : GoodIn wsX4_stuck wsX4_isMirror := goodIn_r _ [7, 2, 8, 9, 10, 11, 12, 13, 14, 15, 6, 16, 38, 39, 40, 41, 42, 43, 44, 45, 46, 47, 48, 49, 50, 51, 52, 53] rfl (by decide +kernel)
set_option maxRecDepth 20000 in
theorem gX4_stuck_X4_isMirror : GoodIn wsX4_stuck (wsV RX4 100 RX4 yX4_isMirror wsX4_isMirror) := goodIn_app (goodIn_of _ (by decide +kernel)) ggX4_stuck_X4_isMirror
set_option maxRecDepth 20000 in
theorem ggX4_stuck_X1_size : GoodIn wsX4_stuck wsX1_size := goodIn_r _ [12, 13, 43, 44, 45, 46, 47, 48, 49, 50, 51, 52, 53] rfl (by decide +kernel)
set_option maxRecDepth 20000 in
theorem gX4_stuck_X1_size : GoodIn wsX4_stuck (wsV RX4 57 RX1 yX1_size wsX1_size) := goodIn_app (goodIn_of _ (by decide +kernel)) ggX4_stuck_X1_size
set_option maxRecDepth 20000 in
theorem ggX4_stuck_X2_verdictOn : GoodIn wsX4_stuck wsX2_verdictOn := goodIn_r _ [21, 22, 23, 24, 25, 20, 26, 27, 28, 29, 30, 31, 32, 33, 34, 35, 36, 37, 54, 55, 56, 57, 58] rfl (by decide +kernel)
set_option maxRecDepth 20000 in
theorem gX4_stuck_X2_verdictOn : GoodIn wsX4_stuck (wsV RX4 177 RX2 yX2_verdictOn wsX2_verdictOn) := goodIn_app (goodIn_of _ (by decide +kernel)) ggX4_stuck_X2_verdictOn
theorem dX4_stuck_0 : decode cX4_stuck 0 = .ok (.aload_n 0, 1) := by decide +kernel
theorem dX4_stuck_1 : decode cX4_stuck 1 = .ok (.iload_n 1, 1) := by decide +kernel
theorem dX4_stuck_2 : decode cX4_stuck 2 = .ok (.invokevirtual 100, 3) := by decide +kernel
theorem dX4_stuck_5 : decode cX4_stuck 5 = .ok (.ifCond .eq 21, 3) := by decide +kernel
theorem dX4_stuck_8 : decode cX4_stuck 8 = .ok (.aload_n 0, 1) := by decide +kernel
theorem dX4_stuck_9 : decode cX4_stuck 9 = .ok (.getfield 37, 3) := by decide +kernel
theorem dX4_stuck_12 : decode cX4_stuck 12 = .ok (.iload_n 1, 1) := by decide +kernel
theorem dX4_stuck_13 : decode cX4_stuck 13 = .ok (.aload_n 0, 1) := by decide +kernel
theorem dX4_stuck_14 : decode cX4_stuck 14 = .ok (.getfield 10, 3) := by decide +kernel
theorem dX4_stuck_17 : decode cX4_stuck 17 = .ok (.invokevirtual 57, 3) := by decide +kernel
theorem dX4_stuck_20 : decode cX4_stuck 20 = .ok (.invokevirtual 177, 3) := by decide +kernel
theorem dX4_stuck_23 : decode cX4_stuck 23 = .ok (.goto 4, 3) := by decide +kernel
theorem dX4_stuck_26 : decode cX4_stuck 26 = .ok (.iconst (-1), 1) := by decide +kernel
theorem dX4_stuck_27 : decode cX4_stuck 27 = .ok (.ireturn, 1) := by decide +kernel
set_option maxRecDepth 20000 in
theorem ggX4_unsure_X1_size : GoodIn wsX4_unsure wsX1_size := goodIn_r _ [7, 8, 35, 36, 37, 38, 39, 40, 41, 42, 43, 44, 45] rfl (by decide +kernel)
set_option maxRecDepth 20000 in
theorem gX4_unsure_X1_size : GoodIn wsX4_unsure (wsV RX4 57 RX1 yX1_size wsX1_size) := goodIn_app (goodIn_of _ (by decide +kernel)) ggX4_unsure_X1_size
set_option maxRecDepth 20000 in
theorem ggX4_unsure_X2_unsureOf : GoodIn wsX4_unsure wsX2_unsureOf := goodIn_r _ [13, 14, 15, 16, 12, 17, 18, 19, 20, 21, 22, 23, 24, 25, 26, 27, 28, 29, 46, 47, 48, 49, 50] rfl (by decide +kernel)
set_option maxRecDepth 20000 in
theorem gX4_unsure_X2_unsureOf : GoodIn wsX4_unsure (wsV RX4 180 RX2 yX2_unsureOf wsX2_unsureOf) := goodIn_app (goodIn_of _ (by decide +kernel)) ggX4_unsure_X2_unsureOf
theorem dX4_unsure_0 : decode cX4_unsure 0 = .ok (.aload_n 0, 1) := by decide +kernel
theorem dX4_unsure_1 : decode cX4_unsure 1 = .ok (.getfield 37, 3) := by decide +kernel
theorem dX4_unsure_4 : decode cX4_unsure 4 = .ok (.aload_n 0, 1) := by decide +kernel
theorem dX4_unsure_5 : decode cX4_unsure 5 = .ok (.getfield 10, 3) := by decide +kernel
theorem dX4_unsure_8 : decode cX4_unsure 8 = .ok (.invokevirtual 57, 3) := by decide +kernel
theorem dX4_unsure_11 : decode cX4_unsure 11 = .ok (.invokevirtual 180, 3) := by decide +kernel
theorem dX4_unsure_14 : decode cX4_unsure 14 = .ok (.ireturn, 1) := by decide +kernel
set_option maxRecDepth 20000 in
theorem ggX4_count_X1_size : GoodIn wsX4_count wsX1_size := goodIn_r _ [8, 9, 42, 43, 44, 45, 46, 47, 48, 49, 50, 51, 52] rfl (by decide +kernel)
set_option maxRecDepth 20000 in
theorem gX4_count_X1_size : GoodIn wsX4_count (wsV RX4 57 RX1 yX1_size wsX1_size) := goodIn_app (goodIn_of _ (by decide +kernel)) ggX4_count_X1_size
set_option maxRecDepth 20000 in
theorem ggX4_count_X3_hourNow : GoodIn wsX4_count wsX3_hourNow := goodIn_r _ [14, 15, 53, 54, 55, 56, 57, 58, 59, 60, 61, 62, 63, 64, 65, 66] rfl (by decide +kernel)
set_option maxRecDepth 20000 in
theorem gX4_count_X3_hourNow : GoodIn wsX4_count (wsV RX4 134 RX3 yX3_hourNow wsX3_hourNow) := goodIn_app (goodIn_of _ (by decide +kernel)) ggX4_count_X3_hourNow
set_option maxRecDepth 20000 in
theorem ggX4_count_X3_unitsHeld : GoodIn wsX4_count wsX3_unitsHeld := goodIn_r _ [19, 20, 53, 54, 55, 56, 57, 58, 59, 60, 61, 62, 63, 64, 65, 66] rfl (by decide +kernel)
set_option maxRecDepth 20000 in
theorem gX4_count_X3_unitsHeld : GoodIn wsX4_count (wsV RX4 183 RX3 yX3_unitsHeld wsX3_unitsHeld) := goodIn_app (goodIn_of _ (by decide +kernel)) ggX4_count_X3_unitsHeld
set_option maxRecDepth 20000 in
theorem ggX4_count_X3_isWarm : GoodIn wsX4_count wsX3_isWarm := goodIn_r _ [24, 25, 53, 54, 55, 56, 57, 58, 59, 60, 61, 62, 63, 64, 65, 66] rfl (by decide +kernel)
set_option maxRecDepth 20000 in
theorem gX4_count_X3_isWarm : GoodIn wsX4_count (wsV RX4 186 RX3 yX3_isWarm wsX3_isWarm) := goodIn_app (goodIn_of _ (by decide +kernel)) ggX4_count_X3_isWarm
set_option maxRecDepth 20000 in
theorem ggX4_count_X2_size : GoodIn wsX4_count wsX2_size := goodIn_r _ [30, 31, 67, 68, 69, 70, 71] rfl (by decide +kernel)
set_option maxRecDepth 20000 in
theorem gX4_count_X2_size : GoodIn wsX4_count (wsV RX4 166 RX2 yX2_size wsX2_size) := goodIn_app (goodIn_of _ (by decide +kernel)) ggX4_count_X2_size
set_option maxRecDepth 20000 in
theorem ggX4_count_X1_soilInAll : GoodIn wsX4_count wsX1_soilInAll := goodIn_r _ [35, 9, 36, 42, 43, 44, 45, 46, 47, 48, 49, 50, 51, 52] rfl (by decide +kernel)
set_option maxRecDepth 20000 in
theorem gX4_count_X1_soilInAll : GoodIn wsX4_count (wsV RX4 189 RX1 yX1_soilInAll wsX1_soilInAll) := goodIn_app (goodIn_of _ (by decide +kernel)) ggX4_count_X1_soilInAll
theorem dX4_count_0 : decode cX4_count 0 = .ok (.iload_n 1, 1) := by decide +kernel
theorem dX4_count_1 : decode cX4_count 1 = .ok (.tableswitch 95 0 5 #[39, 47, 55, 63, 79, 87], 39) := by decide +kernel
theorem dX4_count_40 : decode cX4_count 40 = .ok (.aload_n 0, 1) := by decide +kernel
theorem dX4_count_41 : decode cX4_count 41 = .ok (.getfield 10, 3) := by decide +kernel
theorem dX4_count_44 : decode cX4_count 44 = .ok (.invokevirtual 57, 3) := by decide +kernel
theorem dX4_count_47 : decode cX4_count 47 = .ok (.ireturn, 1) := by decide +kernel
theorem dX4_count_48 : decode cX4_count 48 = .ok (.aload_n 0, 1) := by decide +kernel
theorem dX4_count_49 : decode cX4_count 49 = .ok (.getfield 30, 3) := by decide +kernel
theorem dX4_count_52 : decode cX4_count 52 = .ok (.invokevirtual 134, 3) := by decide +kernel
theorem dX4_count_55 : decode cX4_count 55 = .ok (.ireturn, 1) := by decide +kernel
theorem dX4_count_56 : decode cX4_count 56 = .ok (.aload_n 0, 1) := by decide +kernel
theorem dX4_count_57 : decode cX4_count 57 = .ok (.getfield 30, 3) := by decide +kernel
theorem dX4_count_60 : decode cX4_count 60 = .ok (.invokevirtual 183, 3) := by decide +kernel
theorem dX4_count_63 : decode cX4_count 63 = .ok (.ireturn, 1) := by decide +kernel
theorem dX4_count_64 : decode cX4_count 64 = .ok (.aload_n 0, 1) := by decide +kernel
theorem dX4_count_65 : decode cX4_count 65 = .ok (.getfield 30, 3) := by decide +kernel
theorem dX4_count_68 : decode cX4_count 68 = .ok (.invokevirtual 186, 3) := by decide +kernel
theorem dX4_count_71 : decode cX4_count 71 = .ok (.ifCond .eq 7, 3) := by decide +kernel
theorem dX4_count_74 : decode cX4_count 74 = .ok (.iconst 1, 1) := by decide +kernel
