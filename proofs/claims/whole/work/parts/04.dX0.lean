theorem dX0_init_0 : decode cX0_init 0 = .ok (.aload_n 0, 1) := by decide +kernel
theorem dX0_init_1 : decode cX0_init 1 = .ok (.invokespecial 3, 3) := by decide +kernel
theorem dX0_init_4 : decode cX0_init 4 = .ok (.aload_n 0, 1) := by decide +kernel
theorem dX0_init_5 : decode cX0_init 5 = .ok (.bipush 12, 2) := by decide +kernel
theorem dX0_init_7 : decode cX0_init 7 = .ok (.newarray .int, 2) := by decide +kernel
theorem dX0_init_9 : decode cX0_init 9 = .ok (.putfield 9, 3) := by decide +kernel
theorem dX0_init_12 : decode cX0_init 12 = .ok (.aload_n 0, 1) := by decide +kernel
theorem dX0_init_13 : decode cX0_init 13 = .ok (.bipush 12, 2) := by decide +kernel
theorem dX0_init_15 : decode cX0_init 15 = .ok (.newarray .int, 2) := by decide +kernel
theorem dX0_init_17 : decode cX0_init 17 = .ok (.putfield 15, 3) := by decide +kernel
theorem dX0_init_20 : decode cX0_init 20 = .ok (.aload_n 0, 1) := by decide +kernel
theorem dX0_init_21 : decode cX0_init 21 = .ok (.bipush 12, 2) := by decide +kernel
theorem dX0_init_23 : decode cX0_init 23 = .ok (.newarray .int, 2) := by decide +kernel
theorem dX0_init_25 : decode cX0_init 25 = .ok (.putfield 18, 3) := by decide +kernel
theorem dX0_init_28 : decode cX0_init 28 = .ok (.aload_n 0, 1) := by decide +kernel
theorem dX0_init_29 : decode cX0_init 29 = .ok (.bipush 12, 2) := by decide +kernel
theorem dX0_init_31 : decode cX0_init 31 = .ok (.newarray .int, 2) := by decide +kernel
theorem dX0_init_33 : decode cX0_init 33 = .ok (.putfield 21, 3) := by decide +kernel
theorem dX0_init_36 : decode cX0_init 36 = .ok (.iconst 0, 1) := by decide +kernel
theorem dX0_init_37 : decode cX0_init 37 = .ok (.istore_n 1, 1) := by decide +kernel
theorem dX0_init_38 : decode cX0_init 38 = .ok (.iload_n 1, 1) := by decide +kernel
theorem dX0_init_39 : decode cX0_init 39 = .ok (.bipush 12, 2) := by decide +kernel
theorem dX0_init_41 : decode cX0_init 41 = .ok (.if_icmp .ge 16, 3) := by decide +kernel
theorem dX0_init_44 : decode cX0_init 44 = .ok (.aload_n 0, 1) := by decide +kernel
theorem dX0_init_45 : decode cX0_init 45 = .ok (.getfield 21, 3) := by decide +kernel
theorem dX0_init_48 : decode cX0_init 48 = .ok (.iload_n 1, 1) := by decide +kernel
theorem dX0_init_49 : decode cX0_init 49 = .ok (.iconst 1, 1) := by decide +kernel
theorem dX0_init_50 : decode cX0_init 50 = .ok (.iastore, 1) := by decide +kernel
theorem dX0_init_51 : decode cX0_init 51 = .ok (.iinc 1 1, 3) := by decide +kernel
theorem dX0_init_54 : decode cX0_init 54 = .ok (.goto (-16), 3) := by decide +kernel
theorem dX0_init_57 : decode cX0_init 57 = .ok (.aload_n 0, 1) := by decide +kernel
theorem dX0_init_58 : decode cX0_init 58 = .ok (.bipush 11, 2) := by decide +kernel
theorem dX0_init_60 : decode cX0_init 60 = .ok (.putfield 24, 3) := by decide +kernel
theorem dX0_init_63 : decode cX0_init 63 = .ok (.aload_n 0, 1) := by decide +kernel
theorem dX0_init_64 : decode cX0_init 64 = .ok (.iconst 0, 1) := by decide +kernel
theorem dX0_init_65 : decode cX0_init 65 = .ok (.putfield 28, 3) := by decide +kernel
theorem dX0_init_68 : decode cX0_init 68 = .ok (.aload_n 0, 1) := by decide +kernel
theorem dX0_init_69 : decode cX0_init 69 = .ok (.getfield 9, 3) := by decide +kernel
theorem dX0_init_72 : decode cX0_init 72 = .ok (.bipush 11, 2) := by decide +kernel
theorem dX0_init_74 : decode cX0_init 74 = .ok (.bipush 24, 2) := by decide +kernel
theorem dX0_init_76 : decode cX0_init 76 = .ok (.iastore, 1) := by decide +kernel
theorem dX0_init_77 : decode cX0_init 77 = .ok (.return_, 1) := by decide +kernel
set_option maxRecDepth 20000 in
theorem ggX0_plan_J9_floorMod_7cf53 : GoodIn wsX0_plan wsJ9_floorMod_7cf53 := goodIn_r _ [5] (by decide +kernel) (by decide +kernel)
set_option maxRecDepth 20000 in
theorem gX0_plan_J9_floorMod_7cf53 : GoodIn wsX0_plan (va_wsS RX0 31 yJ9_floorMod_7cf53 wsJ9_floorMod_7cf53) := goodIn_app (goodIn_of _ (by decide +kernel)) ggX0_plan_J9_floorMod_7cf53
set_option maxRecDepth 20000 in
theorem ggX0_plan_X0_giveWolfTheRest : GoodIn wsX0_plan wsX0_giveWolfTheRest := goodIn_r _ [10, 11, 1, 2, 3, 4, 5, 12, 13, 14, 15, 16, 17] (by decide +kernel) (by decide +kernel)
set_option maxRecDepth 20000 in
theorem gX0_plan_X0_giveWolfTheRest : GoodIn wsX0_plan (wsV RX0 37 RX0 yX0_giveWolfTheRest wsX0_giveWolfTheRest) := goodIn_app (goodIn_of _ (by decide +kernel)) ggX0_plan_X0_giveWolfTheRest
theorem dX0_plan_0 : decode cX0_plan 0 = .ok (.aload_n 0, 1) := by decide +kernel
theorem dX0_plan_1 : decode cX0_plan 1 = .ok (.getfield 9, 3) := by decide +kernel
theorem dX0_plan_4 : decode cX0_plan 4 = .ok (.iload_n 1, 1) := by decide +kernel
theorem dX0_plan_5 : decode cX0_plan 5 = .ok (.bipush 12, 2) := by decide +kernel
theorem dX0_plan_7 : decode cX0_plan 7 = .ok (.invokestatic 31, 3) := by decide +kernel
theorem dX0_plan_10 : decode cX0_plan 10 = .ok (.iload_n 2, 1) := by decide +kernel
theorem dX0_plan_11 : decode cX0_plan 11 = .ok (.iastore, 1) := by decide +kernel
theorem dX0_plan_12 : decode cX0_plan 12 = .ok (.aload_n 0, 1) := by decide +kernel
theorem dX0_plan_13 : decode cX0_plan 13 = .ok (.invokevirtual 37, 3) := by decide +kernel
theorem dX0_plan_16 : decode cX0_plan 16 = .ok (.return_, 1) := by decide +kernel
set_option maxRecDepth 20000 in
theorem ggX0_giveWolfTheRest_J9_floorMod_7cf53 : GoodIn wsX0_giveWolfTheRest wsJ9_floorMod_7cf53 := goodIn_r _ [6] (by decide +kernel) (by decide +kernel)
set_option maxRecDepth 20000 in
theorem gX0_giveWolfTheRest_J9_floorMod_7cf53 : GoodIn wsX0_giveWolfTheRest (va_wsS RX0 31 yJ9_floorMod_7cf53 wsJ9_floorMod_7cf53) := goodIn_app (goodIn_of _ (by decide +kernel)) ggX0_giveWolfTheRest_J9_floorMod_7cf53
theorem dX0_giveWolfTheRest_0 : decode cX0_giveWolfTheRest 0 = .ok (.bipush 24, 2) := by decide +kernel
theorem dX0_giveWolfTheRest_2 : decode cX0_giveWolfTheRest 2 = .ok (.istore_n 1, 1) := by decide +kernel
theorem dX0_giveWolfTheRest_3 : decode cX0_giveWolfTheRest 3 = .ok (.iconst 0, 1) := by decide +kernel
theorem dX0_giveWolfTheRest_4 : decode cX0_giveWolfTheRest 4 = .ok (.istore_n 2, 1) := by decide +kernel
theorem dX0_giveWolfTheRest_5 : decode cX0_giveWolfTheRest 5 = .ok (.iload_n 2, 1) := by decide +kernel
theorem dX0_giveWolfTheRest_6 : decode cX0_giveWolfTheRest 6 = .ok (.bipush 12, 2) := by decide +kernel
theorem dX0_giveWolfTheRest_8 : decode cX0_giveWolfTheRest 8 = .ok (.if_icmp .ge 26, 3) := by decide +kernel
theorem dX0_giveWolfTheRest_11 : decode cX0_giveWolfTheRest 11 = .ok (.iload_n 2, 1) := by decide +kernel
theorem dX0_giveWolfTheRest_12 : decode cX0_giveWolfTheRest 12 = .ok (.aload_n 0, 1) := by decide +kernel
theorem dX0_giveWolfTheRest_13 : decode cX0_giveWolfTheRest 13 = .ok (.getfield 24, 3) := by decide +kernel
theorem dX0_giveWolfTheRest_16 : decode cX0_giveWolfTheRest 16 = .ok (.if_icmp .eq 12, 3) := by decide +kernel
theorem dX0_giveWolfTheRest_19 : decode cX0_giveWolfTheRest 19 = .ok (.iload_n 1, 1) := by decide +kernel
theorem dX0_giveWolfTheRest_20 : decode cX0_giveWolfTheRest 20 = .ok (.aload_n 0, 1) := by decide +kernel
theorem dX0_giveWolfTheRest_21 : decode cX0_giveWolfTheRest 21 = .ok (.getfield 9, 3) := by decide +kernel
theorem dX0_giveWolfTheRest_24 : decode cX0_giveWolfTheRest 24 = .ok (.iload_n 2, 1) := by decide +kernel
theorem dX0_giveWolfTheRest_25 : decode cX0_giveWolfTheRest 25 = .ok (.iaload, 1) := by decide +kernel
theorem dX0_giveWolfTheRest_26 : decode cX0_giveWolfTheRest 26 = .ok (.isub, 1) := by decide +kernel
theorem dX0_giveWolfTheRest_27 : decode cX0_giveWolfTheRest 27 = .ok (.istore_n 1, 1) := by decide +kernel
theorem dX0_giveWolfTheRest_28 : decode cX0_giveWolfTheRest 28 = .ok (.iinc 2 1, 3) := by decide +kernel
theorem dX0_giveWolfTheRest_31 : decode cX0_giveWolfTheRest 31 = .ok (.goto (-26), 3) := by decide +kernel
theorem dX0_giveWolfTheRest_34 : decode cX0_giveWolfTheRest 34 = .ok (.aload_n 0, 1) := by decide +kernel
theorem dX0_giveWolfTheRest_35 : decode cX0_giveWolfTheRest 35 = .ok (.getfield 9, 3) := by decide +kernel
theorem dX0_giveWolfTheRest_38 : decode cX0_giveWolfTheRest 38 = .ok (.aload_n 0, 1) := by decide +kernel
theorem dX0_giveWolfTheRest_39 : decode cX0_giveWolfTheRest 39 = .ok (.getfield 24, 3) := by decide +kernel
theorem dX0_giveWolfTheRest_42 : decode cX0_giveWolfTheRest 42 = .ok (.bipush 12, 2) := by decide +kernel
theorem dX0_giveWolfTheRest_44 : decode cX0_giveWolfTheRest 44 = .ok (.invokestatic 31, 3) := by decide +kernel
theorem dX0_giveWolfTheRest_47 : decode cX0_giveWolfTheRest 47 = .ok (.iload_n 1, 1) := by decide +kernel
theorem dX0_giveWolfTheRest_48 : decode cX0_giveWolfTheRest 48 = .ok (.iastore, 1) := by decide +kernel
theorem dX0_giveWolfTheRest_49 : decode cX0_giveWolfTheRest 49 = .ok (.return_, 1) := by decide +kernel
set_option maxRecDepth 20000 in
theorem ggX0_wolfNarrow_J9_floorMod_7cf53 : GoodIn wsX0_wolfNarrow wsJ9_floorMod_7cf53 := goodIn_r _ [6] (by decide +kernel) (by decide +kernel)
set_option maxRecDepth 20000 in
theorem gX0_wolfNarrow_J9_floorMod_7cf53 : GoodIn wsX0_wolfNarrow (va_wsS RX0 31 yJ9_floorMod_7cf53 wsJ9_floorMod_7cf53) := goodIn_app (goodIn_of _ (by decide +kernel)) ggX0_wolfNarrow_J9_floorMod_7cf53
theorem dX0_wolfNarrow_0 : decode cX0_wolfNarrow 0 = .ok (.aload_n 0, 1) := by decide +kernel
theorem dX0_wolfNarrow_1 : decode cX0_wolfNarrow 1 = .ok (.getfield 9, 3) := by decide +kernel
theorem dX0_wolfNarrow_4 : decode cX0_wolfNarrow 4 = .ok (.aload_n 0, 1) := by decide +kernel
theorem dX0_wolfNarrow_5 : decode cX0_wolfNarrow 5 = .ok (.getfield 24, 3) := by decide +kernel
theorem dX0_wolfNarrow_8 : decode cX0_wolfNarrow 8 = .ok (.bipush 12, 2) := by decide +kernel
theorem dX0_wolfNarrow_10 : decode cX0_wolfNarrow 10 = .ok (.invokestatic 31, 3) := by decide +kernel
theorem dX0_wolfNarrow_13 : decode cX0_wolfNarrow 13 = .ok (.iaload, 1) := by decide +kernel
theorem dX0_wolfNarrow_14 : decode cX0_wolfNarrow 14 = .ok (.ireturn, 1) := by decide +kernel
set_option maxRecDepth 20000 in
theorem ggX0_moveWolf_J9_floorMod_7cf53 : GoodIn wsX0_moveWolf wsJ9_floorMod_7cf53 := goodIn_r _ [6] (by decide +kernel) (by decide +kernel)
set_option maxRecDepth 20000 in
theorem gX0_moveWolf_J9_floorMod_7cf53 : GoodIn wsX0_moveWolf (va_wsS RX0 31 yJ9_floorMod_7cf53 wsJ9_floorMod_7cf53) := goodIn_app (goodIn_of _ (by decide +kernel)) ggX0_moveWolf_J9_floorMod_7cf53
theorem dX0_moveWolf_0 : decode cX0_moveWolf 0 = .ok (.aload_n 0, 1) := by decide +kernel
theorem dX0_moveWolf_1 : decode cX0_moveWolf 1 = .ok (.getfield 24, 3) := by decide +kernel
theorem dX0_moveWolf_4 : decode cX0_moveWolf 4 = .ok (.bipush 12, 2) := by decide +kernel
theorem dX0_moveWolf_6 : decode cX0_moveWolf 6 = .ok (.invokestatic 31, 3) := by decide +kernel
theorem dX0_moveWolf_9 : decode cX0_moveWolf 9 = .ok (.istore_n 2, 1) := by decide +kernel
theorem dX0_moveWolf_10 : decode cX0_moveWolf 10 = .ok (.iload_n 1, 1) := by decide +kernel
theorem dX0_moveWolf_11 : decode cX0_moveWolf 11 = .ok (.bipush 12, 2) := by decide +kernel
theorem dX0_moveWolf_13 : decode cX0_moveWolf 13 = .ok (.invokestatic 31, 3) := by decide +kernel
theorem dX0_moveWolf_16 : decode cX0_moveWolf 16 = .ok (.istore_n 3, 1) := by decide +kernel
theorem dX0_moveWolf_17 : decode cX0_moveWolf 17 = .ok (.aload_n 0, 1) := by decide +kernel
theorem dX0_moveWolf_18 : decode cX0_moveWolf 18 = .ok (.getfield 9, 3) := by decide +kernel
theorem dX0_moveWolf_21 : decode cX0_moveWolf 21 = .ok (.iload_n 3, 1) := by decide +kernel
theorem dX0_moveWolf_22 : decode cX0_moveWolf 22 = .ok (.iaload, 1) := by decide +kernel
theorem dX0_moveWolf_23 : decode cX0_moveWolf 23 = .ok (.istore 4, 2) := by decide +kernel
theorem dX0_moveWolf_25 : decode cX0_moveWolf 25 = .ok (.aload_n 0, 1) := by decide +kernel
theorem dX0_moveWolf_26 : decode cX0_moveWolf 26 = .ok (.getfield 9, 3) := by decide +kernel
theorem dX0_moveWolf_29 : decode cX0_moveWolf 29 = .ok (.iload_n 3, 1) := by decide +kernel
theorem dX0_moveWolf_30 : decode cX0_moveWolf 30 = .ok (.aload_n 0, 1) := by decide +kernel
theorem dX0_moveWolf_31 : decode cX0_moveWolf 31 = .ok (.getfield 9, 3) := by decide +kernel
theorem dX0_moveWolf_34 : decode cX0_moveWolf 34 = .ok (.iload_n 2, 1) := by decide +kernel
theorem dX0_moveWolf_35 : decode cX0_moveWolf 35 = .ok (.iaload, 1) := by decide +kernel
theorem dX0_moveWolf_36 : decode cX0_moveWolf 36 = .ok (.iastore, 1) := by decide +kernel
theorem dX0_moveWolf_37 : decode cX0_moveWolf 37 = .ok (.aload_n 0, 1) := by decide +kernel
theorem dX0_moveWolf_38 : decode cX0_moveWolf 38 = .ok (.getfield 9, 3) := by decide +kernel
theorem dX0_moveWolf_41 : decode cX0_moveWolf 41 = .ok (.iload_n 2, 1) := by decide +kernel
theorem dX0_moveWolf_42 : decode cX0_moveWolf 42 = .ok (.iload 4, 2) := by decide +kernel
theorem dX0_moveWolf_44 : decode cX0_moveWolf 44 = .ok (.iastore, 1) := by decide +kernel
theorem dX0_moveWolf_45 : decode cX0_moveWolf 45 = .ok (.aload_n 0, 1) := by decide +kernel
theorem dX0_moveWolf_46 : decode cX0_moveWolf 46 = .ok (.iload_n 3, 1) := by decide +kernel
theorem dX0_moveWolf_47 : decode cX0_moveWolf 47 = .ok (.putfield 24, 3) := by decide +kernel
theorem dX0_moveWolf_50 : decode cX0_moveWolf 50 = .ok (.return_, 1) := by decide +kernel
set_option maxRecDepth 20000 in
theorem ggX0_spreadComma_J9_floorMod_7cf53 : GoodIn wsX0_spreadComma wsJ9_floorMod_7cf53 := goodIn_r _ [6] (by decide +kernel) (by decide +kernel)
set_option maxRecDepth 20000 in
theorem gX0_spreadComma_J9_floorMod_7cf53 : GoodIn wsX0_spreadComma (va_wsS RX0 31 yJ9_floorMod_7cf53 wsJ9_floorMod_7cf53) := goodIn_app (goodIn_of _ (by decide +kernel)) ggX0_spreadComma_J9_floorMod_7cf53
set_option maxRecDepth 20000 in
theorem ggX0_spreadComma_X0_giveWolfTheRest : GoodIn wsX0_spreadComma wsX0_giveWolfTheRest := goodIn_r _ [11, 2, 1, 3, 4, 5, 6, 12, 13, 14, 15, 16, 17] (by decide +kernel) (by decide +kernel)
set_option maxRecDepth 20000 in
theorem gX0_spreadComma_X0_giveWolfTheRest : GoodIn wsX0_spreadComma (wsV RX0 37 RX0 yX0_giveWolfTheRest wsX0_giveWolfTheRest) := goodIn_app (goodIn_of _ (by decide +kernel)) ggX0_spreadComma_X0_giveWolfTheRest
theorem dX0_spreadComma_0 : decode cX0_spreadComma 0 = .ok (.iload_n 1, 1) := by decide +kernel
theorem dX0_spreadComma_1 : decode cX0_spreadComma 1 = .ok (.iconst 1, 1) := by decide +kernel
theorem dX0_spreadComma_2 : decode cX0_spreadComma 2 = .ok (.if_icmp .ge 4, 3) := by decide +kernel
theorem dX0_spreadComma_5 : decode cX0_spreadComma 5 = .ok (.return_, 1) := by decide +kernel
theorem dX0_spreadComma_6 : decode cX0_spreadComma 6 = .ok (.bipush 24, 2) := by decide +kernel
theorem dX0_spreadComma_8 : decode cX0_spreadComma 8 = .ok (.iload_n 1, 1) := by decide +kernel
theorem dX0_spreadComma_9 : decode cX0_spreadComma 9 = .ok (.idiv, 1) := by decide +kernel
theorem dX0_spreadComma_10 : decode cX0_spreadComma 10 = .ok (.istore_n 2, 1) := by decide +kernel
theorem dX0_spreadComma_11 : decode cX0_spreadComma 11 = .ok (.bipush 24, 2) := by decide +kernel
theorem dX0_spreadComma_13 : decode cX0_spreadComma 13 = .ok (.iload_n 1, 1) := by decide +kernel
theorem dX0_spreadComma_14 : decode cX0_spreadComma 14 = .ok (.irem, 1) := by decide +kernel
theorem dX0_spreadComma_15 : decode cX0_spreadComma 15 = .ok (.istore_n 3, 1) := by decide +kernel
theorem dX0_spreadComma_16 : decode cX0_spreadComma 16 = .ok (.iconst 0, 1) := by decide +kernel
theorem dX0_spreadComma_17 : decode cX0_spreadComma 17 = .ok (.istore 4, 2) := by decide +kernel
theorem dX0_spreadComma_19 : decode cX0_spreadComma 19 = .ok (.iload 4, 2) := by decide +kernel
theorem dX0_spreadComma_21 : decode cX0_spreadComma 21 = .ok (.bipush 11, 2) := by decide +kernel
theorem dX0_spreadComma_23 : decode cX0_spreadComma 23 = .ok (.if_icmp .ge 56, 3) := by decide +kernel
theorem dX0_spreadComma_26 : decode cX0_spreadComma 26 = .ok (.iload 4, 2) := by decide +kernel
theorem dX0_spreadComma_28 : decode cX0_spreadComma 28 = .ok (.iload_n 1, 1) := by decide +kernel
theorem dX0_spreadComma_29 : decode cX0_spreadComma 29 = .ok (.if_icmp .ge 7, 3) := by decide +kernel
theorem dX0_spreadComma_32 : decode cX0_spreadComma 32 = .ok (.iload_n 2, 1) := by decide +kernel
theorem dX0_spreadComma_33 : decode cX0_spreadComma 33 = .ok (.goto 4, 3) := by decide +kernel
theorem dX0_spreadComma_36 : decode cX0_spreadComma 36 = .ok (.iconst 0, 1) := by decide +kernel
theorem dX0_spreadComma_37 : decode cX0_spreadComma 37 = .ok (.istore 5, 2) := by decide +kernel
theorem dX0_spreadComma_39 : decode cX0_spreadComma 39 = .ok (.aload_n 0, 1) := by decide +kernel
theorem dX0_spreadComma_40 : decode cX0_spreadComma 40 = .ok (.getfield 9, 3) := by decide +kernel
theorem dX0_spreadComma_43 : decode cX0_spreadComma 43 = .ok (.aload_n 0, 1) := by decide +kernel
theorem dX0_spreadComma_44 : decode cX0_spreadComma 44 = .ok (.getfield 24, 3) := by decide +kernel
theorem dX0_spreadComma_47 : decode cX0_spreadComma 47 = .ok (.iconst 1, 1) := by decide +kernel
theorem dX0_spreadComma_48 : decode cX0_spreadComma 48 = .ok (.iadd, 1) := by decide +kernel
theorem dX0_spreadComma_49 : decode cX0_spreadComma 49 = .ok (.iload 4, 2) := by decide +kernel
theorem dX0_spreadComma_51 : decode cX0_spreadComma 51 = .ok (.iadd, 1) := by decide +kernel
theorem dX0_spreadComma_52 : decode cX0_spreadComma 52 = .ok (.bipush 12, 2) := by decide +kernel
theorem dX0_spreadComma_54 : decode cX0_spreadComma 54 = .ok (.invokestatic 31, 3) := by decide +kernel
theorem dX0_spreadComma_57 : decode cX0_spreadComma 57 = .ok (.iload 4, 2) := by decide +kernel
theorem dX0_spreadComma_59 : decode cX0_spreadComma 59 = .ok (.iload_n 3, 1) := by decide +kernel
theorem dX0_spreadComma_60 : decode cX0_spreadComma 60 = .ok (.if_icmp .ge 10, 3) := by decide +kernel
theorem dX0_spreadComma_63 : decode cX0_spreadComma 63 = .ok (.iload 5, 2) := by decide +kernel
theorem dX0_spreadComma_65 : decode cX0_spreadComma 65 = .ok (.iconst 1, 1) := by decide +kernel
theorem dX0_spreadComma_66 : decode cX0_spreadComma 66 = .ok (.iadd, 1) := by decide +kernel
theorem dX0_spreadComma_67 : decode cX0_spreadComma 67 = .ok (.goto 5, 3) := by decide +kernel
theorem dX0_spreadComma_70 : decode cX0_spreadComma 70 = .ok (.iload 5, 2) := by decide +kernel
theorem dX0_spreadComma_72 : decode cX0_spreadComma 72 = .ok (.iastore, 1) := by decide +kernel
theorem dX0_spreadComma_73 : decode cX0_spreadComma 73 = .ok (.iinc 4 1, 3) := by decide +kernel
theorem dX0_spreadComma_76 : decode cX0_spreadComma 76 = .ok (.goto (-57), 3) := by decide +kernel
theorem dX0_spreadComma_79 : decode cX0_spreadComma 79 = .ok (.aload_n 0, 1) := by decide +kernel
theorem dX0_spreadComma_80 : decode cX0_spreadComma 80 = .ok (.invokevirtual 37, 3) := by decide +kernel
theorem dX0_spreadComma_83 : decode cX0_spreadComma 83 = .ok (.return_, 1) := by decide +kernel
set_option maxRecDepth 20000 in
theorem ggX0_canTune_J9_floorMod_7cf53 : GoodIn wsX0_canTune wsJ9_floorMod_7cf53 := goodIn_r _ [5] (by decide +kernel) (by decide +kernel)
set_option maxRecDepth 20000 in
theorem gX0_canTune_J9_floorMod_7cf53 : GoodIn wsX0_canTune (va_wsS RX0 31 yJ9_floorMod_7cf53 wsJ9_floorMod_7cf53) := goodIn_app (goodIn_of _ (by decide +kernel)) ggX0_canTune_J9_floorMod_7cf53
theorem dX0_canTune_0 : decode cX0_canTune 0 = .ok (.iload_n 1, 1) := by decide +kernel
theorem dX0_canTune_1 : decode cX0_canTune 1 = .ok (.iconst 1, 1) := by decide +kernel
theorem dX0_canTune_2 : decode cX0_canTune 2 = .ok (.isub, 1) := by decide +kernel
theorem dX0_canTune_3 : decode cX0_canTune 3 = .ok (.bipush 12, 2) := by decide +kernel
theorem dX0_canTune_5 : decode cX0_canTune 5 = .ok (.invokestatic 31, 3) := by decide +kernel
theorem dX0_canTune_8 : decode cX0_canTune 8 = .ok (.aload_n 0, 1) := by decide +kernel
theorem dX0_canTune_9 : decode cX0_canTune 9 = .ok (.getfield 24, 3) := by decide +kernel
theorem dX0_canTune_12 : decode cX0_canTune 12 = .ok (.if_icmp .eq 7, 3) := by decide +kernel
theorem dX0_canTune_15 : decode cX0_canTune 15 = .ok (.iconst 1, 1) := by decide +kernel
theorem dX0_canTune_16 : decode cX0_canTune 16 = .ok (.goto 4, 3) := by decide +kernel
theorem dX0_canTune_19 : decode cX0_canTune 19 = .ok (.iconst 0, 1) := by decide +kernel
theorem dX0_canTune_20 : decode cX0_canTune 20 = .ok (.ireturn, 1) := by decide +kernel
set_option maxRecDepth 20000 in
theorem ggX0_tuneOne_J9_floorMod_7cf53 : GoodIn wsX0_tuneOne wsJ9_floorMod_7cf53 := goodIn_r _ [5] (by decide +kernel) (by decide +kernel)
set_option maxRecDepth 20000 in
theorem gX0_tuneOne_J9_floorMod_7cf53 : GoodIn wsX0_tuneOne (va_wsS RX0 31 yJ9_floorMod_7cf53 wsJ9_floorMod_7cf53) := goodIn_app (goodIn_of _ (by decide +kernel)) ggX0_tuneOne_J9_floorMod_7cf53
theorem dX0_tuneOne_0 : decode cX0_tuneOne 0 = .ok (.iload_n 1, 1) := by decide +kernel
theorem dX0_tuneOne_1 : decode cX0_tuneOne 1 = .ok (.bipush 12, 2) := by decide +kernel
theorem dX0_tuneOne_3 : decode cX0_tuneOne 3 = .ok (.invokestatic 31, 3) := by decide +kernel
theorem dX0_tuneOne_6 : decode cX0_tuneOne 6 = .ok (.istore_n 2, 1) := by decide +kernel
theorem dX0_tuneOne_7 : decode cX0_tuneOne 7 = .ok (.aload_n 0, 1) := by decide +kernel
theorem dX0_tuneOne_8 : decode cX0_tuneOne 8 = .ok (.getfield 15, 3) := by decide +kernel
theorem dX0_tuneOne_11 : decode cX0_tuneOne 11 = .ok (.iload_n 2, 1) := by decide +kernel
theorem dX0_tuneOne_12 : decode cX0_tuneOne 12 = .ok (.iaload, 1) := by decide +kernel
theorem dX0_tuneOne_13 : decode cX0_tuneOne 13 = .ok (.istore_n 3, 1) := by decide +kernel
theorem dX0_tuneOne_14 : decode cX0_tuneOne 14 = .ok (.aload_n 0, 1) := by decide +kernel
theorem dX0_tuneOne_15 : decode cX0_tuneOne 15 = .ok (.getfield 15, 3) := by decide +kernel
theorem dX0_tuneOne_18 : decode cX0_tuneOne 18 = .ok (.iload_n 2, 1) := by decide +kernel
theorem dX0_tuneOne_19 : decode cX0_tuneOne 19 = .ok (.aload_n 0, 1) := by decide +kernel
theorem dX0_tuneOne_20 : decode cX0_tuneOne 20 = .ok (.getfield 15, 3) := by decide +kernel
theorem dX0_tuneOne_23 : decode cX0_tuneOne 23 = .ok (.iload_n 2, 1) := by decide +kernel
theorem dX0_tuneOne_24 : decode cX0_tuneOne 24 = .ok (.iconst 1, 1) := by decide +kernel
theorem dX0_tuneOne_25 : decode cX0_tuneOne 25 = .ok (.isub, 1) := by decide +kernel
theorem dX0_tuneOne_26 : decode cX0_tuneOne 26 = .ok (.bipush 12, 2) := by decide +kernel
theorem dX0_tuneOne_28 : decode cX0_tuneOne 28 = .ok (.invokestatic 31, 3) := by decide +kernel
theorem dX0_tuneOne_31 : decode cX0_tuneOne 31 = .ok (.iaload, 1) := by decide +kernel
theorem dX0_tuneOne_32 : decode cX0_tuneOne 32 = .ok (.iastore, 1) := by decide +kernel
theorem dX0_tuneOne_33 : decode cX0_tuneOne 33 = .ok (.aload_n 0, 1) := by decide +kernel
theorem dX0_tuneOne_34 : decode cX0_tuneOne 34 = .ok (.getfield 15, 3) := by decide +kernel
theorem dX0_tuneOne_37 : decode cX0_tuneOne 37 = .ok (.iload_n 2, 1) := by decide +kernel
theorem dX0_tuneOne_38 : decode cX0_tuneOne 38 = .ok (.iaload, 1) := by decide +kernel
theorem dX0_tuneOne_39 : decode cX0_tuneOne 39 = .ok (.iload_n 3, 1) := by decide +kernel
theorem dX0_tuneOne_40 : decode cX0_tuneOne 40 = .ok (.isub, 1) := by decide +kernel
theorem dX0_tuneOne_41 : decode cX0_tuneOne 41 = .ok (.ireturn, 1) := by decide +kernel
set_option maxRecDepth 20000 in
theorem ggX0_tuneRound_X0_tuneOne : GoodIn wsX0_tuneRound wsX0_tuneOne := goodIn_r _ [6, 7, 8, 9, 10, 11, 12, 13, 14, 15, 16, 17] (by decide +kernel) (by decide +kernel)
set_option maxRecDepth 20000 in
theorem gX0_tuneRound_X0_tuneOne : GoodIn wsX0_tuneRound (wsV RX0 40 RX0 yX0_tuneOne wsX0_tuneOne) := goodIn_app (goodIn_of _ (by decide +kernel)) ggX0_tuneRound_X0_tuneOne
theorem dX0_tuneRound_0 : decode cX0_tuneRound 0 = .ok (.iconst 0, 1) := by decide +kernel
theorem dX0_tuneRound_1 : decode cX0_tuneRound 1 = .ok (.istore_n 1, 1) := by decide +kernel
theorem dX0_tuneRound_2 : decode cX0_tuneRound 2 = .ok (.iconst 2, 1) := by decide +kernel
theorem dX0_tuneRound_3 : decode cX0_tuneRound 3 = .ok (.istore_n 2, 1) := by decide +kernel
theorem dX0_tuneRound_4 : decode cX0_tuneRound 4 = .ok (.iload_n 2, 1) := by decide +kernel
theorem dX0_tuneRound_5 : decode cX0_tuneRound 5 = .ok (.bipush 12, 2) := by decide +kernel
theorem dX0_tuneRound_7 : decode cX0_tuneRound 7 = .ok (.if_icmp .gt 25, 3) := by decide +kernel
theorem dX0_tuneRound_10 : decode cX0_tuneRound 10 = .ok (.aload_n 0, 1) := by decide +kernel
theorem dX0_tuneRound_11 : decode cX0_tuneRound 11 = .ok (.aload_n 0, 1) := by decide +kernel
theorem dX0_tuneRound_12 : decode cX0_tuneRound 12 = .ok (.getfield 24, 3) := by decide +kernel
theorem dX0_tuneRound_15 : decode cX0_tuneRound 15 = .ok (.iload_n 2, 1) := by decide +kernel
theorem dX0_tuneRound_16 : decode cX0_tuneRound 16 = .ok (.iadd, 1) := by decide +kernel
theorem dX0_tuneRound_17 : decode cX0_tuneRound 17 = .ok (.invokevirtual 40, 3) := by decide +kernel
theorem dX0_tuneRound_20 : decode cX0_tuneRound 20 = .ok (.ifCond .eq 6, 3) := by decide +kernel
theorem dX0_tuneRound_23 : decode cX0_tuneRound 23 = .ok (.iinc 1 1, 3) := by decide +kernel
theorem dX0_tuneRound_26 : decode cX0_tuneRound 26 = .ok (.iinc 2 1, 3) := by decide +kernel
theorem dX0_tuneRound_29 : decode cX0_tuneRound 29 = .ok (.goto (-25), 3) := by decide +kernel
theorem dX0_tuneRound_32 : decode cX0_tuneRound 32 = .ok (.iload_n 1, 1) := by decide +kernel
theorem dX0_tuneRound_33 : decode cX0_tuneRound 33 = .ok (.ireturn, 1) := by decide +kernel
set_option maxRecDepth 20000 in
theorem ggX0_offForPureMajor_J9_floorMod_7cf53 : GoodIn wsX0_offForPureMajor wsJ9_floorMod_7cf53 := goodIn_r _ [5] (by decide +kernel) (by decide +kernel)
set_option maxRecDepth 20000 in
theorem gX0_offForPureMajor_J9_floorMod_7cf53 : GoodIn wsX0_offForPureMajor (va_wsS RX0 31 yJ9_floorMod_7cf53 wsJ9_floorMod_7cf53) := goodIn_app (goodIn_of _ (by decide +kernel)) ggX0_offForPureMajor_J9_floorMod_7cf53
set_option maxRecDepth 20000 in
theorem ggX0_offForPureMajor_X0_majorOff : GoodIn wsX0_offForPureMajor wsX0_majorOff := goodIn_r _ [10, 11, 12, 13, 9, 14, 15, 1, 2, 3, 4, 5, 16, 17, 18, 19, 20, 21] (by decide +kernel) (by decide +kernel)
set_option maxRecDepth 20000 in
theorem gX0_offForPureMajor_X0_majorOff : GoodIn wsX0_offForPureMajor (wsV RX0 44 RX0 yX0_majorOff wsX0_majorOff) := goodIn_app (goodIn_of _ (by decide +kernel)) ggX0_offForPureMajor_X0_majorOff
theorem dX0_offForPureMajor_0 : decode cX0_offForPureMajor 0 = .ok (.aload_n 0, 1) := by decide +kernel
theorem dX0_offForPureMajor_1 : decode cX0_offForPureMajor 1 = .ok (.getfield 15, 3) := by decide +kernel
theorem dX0_offForPureMajor_4 : decode cX0_offForPureMajor 4 = .ok (.iload_n 1, 1) := by decide +kernel
theorem dX0_offForPureMajor_5 : decode cX0_offForPureMajor 5 = .ok (.iconst 4, 1) := by decide +kernel
theorem dX0_offForPureMajor_6 : decode cX0_offForPureMajor 6 = .ok (.iadd, 1) := by decide +kernel
theorem dX0_offForPureMajor_7 : decode cX0_offForPureMajor 7 = .ok (.bipush 12, 2) := by decide +kernel
theorem dX0_offForPureMajor_9 : decode cX0_offForPureMajor 9 = .ok (.invokestatic 31, 3) := by decide +kernel
theorem dX0_offForPureMajor_12 : decode cX0_offForPureMajor 12 = .ok (.iaload, 1) := by decide +kernel
theorem dX0_offForPureMajor_13 : decode cX0_offForPureMajor 13 = .ok (.aload_n 0, 1) := by decide +kernel
theorem dX0_offForPureMajor_14 : decode cX0_offForPureMajor 14 = .ok (.iload_n 1, 1) := by decide +kernel
theorem dX0_offForPureMajor_15 : decode cX0_offForPureMajor 15 = .ok (.invokevirtual 44, 3) := by decide +kernel
theorem dX0_offForPureMajor_18 : decode cX0_offForPureMajor 18 = .ok (.isub, 1) := by decide +kernel
theorem dX0_offForPureMajor_19 : decode cX0_offForPureMajor 19 = .ok (.ireturn, 1) := by decide +kernel
theorem dX0_letPass_0 : decode cX0_letPass 0 = .ok (.iconst 0, 1) := by decide +kernel
theorem dX0_letPass_1 : decode cX0_letPass 1 = .ok (.istore_n 2, 1) := by decide +kernel
theorem dX0_letPass_2 : decode cX0_letPass 2 = .ok (.iload_n 2, 1) := by decide +kernel
theorem dX0_letPass_3 : decode cX0_letPass 3 = .ok (.iload_n 1, 1) := by decide +kernel
theorem dX0_letPass_4 : decode cX0_letPass 4 = .ok (.if_icmp .ge 62, 3) := by decide +kernel
theorem dX0_letPass_7 : decode cX0_letPass 7 = .ok (.iconst 0, 1) := by decide +kernel
theorem dX0_letPass_8 : decode cX0_letPass 8 = .ok (.istore_n 3, 1) := by decide +kernel
theorem dX0_letPass_9 : decode cX0_letPass 9 = .ok (.iload_n 3, 1) := by decide +kernel
theorem dX0_letPass_10 : decode cX0_letPass 10 = .ok (.bipush 12, 2) := by decide +kernel
theorem dX0_letPass_12 : decode cX0_letPass 12 = .ok (.if_icmp .ge 38, 3) := by decide +kernel
theorem dX0_letPass_15 : decode cX0_letPass 15 = .ok (.aload_n 0, 1) := by decide +kernel
theorem dX0_letPass_16 : decode cX0_letPass 16 = .ok (.getfield 15, 3) := by decide +kernel
theorem dX0_letPass_19 : decode cX0_letPass 19 = .ok (.iload_n 3, 1) := by decide +kernel
theorem dX0_letPass_20 : decode cX0_letPass 20 = .ok (.bipush (-50), 2) := by decide +kernel
theorem dX0_letPass_22 : decode cX0_letPass 22 = .ok (.bipush 50, 2) := by decide +kernel
theorem dX0_letPass_24 : decode cX0_letPass 24 = .ok (.aload_n 0, 1) := by decide +kernel
theorem dX0_letPass_25 : decode cX0_letPass 25 = .ok (.getfield 15, 3) := by decide +kernel
theorem dX0_letPass_28 : decode cX0_letPass 28 = .ok (.iload_n 3, 1) := by decide +kernel
theorem dX0_letPass_29 : decode cX0_letPass 29 = .ok (.iaload, 1) := by decide +kernel
theorem dX0_letPass_30 : decode cX0_letPass 30 = .ok (.aload_n 0, 1) := by decide +kernel
theorem dX0_letPass_31 : decode cX0_letPass 31 = .ok (.getfield 18, 3) := by decide +kernel
theorem dX0_letPass_34 : decode cX0_letPass 34 = .ok (.iload_n 3, 1) := by decide +kernel
theorem dX0_letPass_35 : decode cX0_letPass 35 = .ok (.iaload, 1) := by decide +kernel
theorem dX0_letPass_36 : decode cX0_letPass 36 = .ok (.iadd, 1) := by decide +kernel
theorem dX0_letPass_37 : decode cX0_letPass 37 = .ok (.invokestatic 47, 3) := by decide +kernel
theorem dX0_letPass_40 : decode cX0_letPass 40 = .ok (.invokestatic 50, 3) := by decide +kernel
theorem dX0_letPass_43 : decode cX0_letPass 43 = .ok (.iastore, 1) := by decide +kernel
theorem dX0_letPass_44 : decode cX0_letPass 44 = .ok (.iinc 3 1, 3) := by decide +kernel
theorem dX0_letPass_47 : decode cX0_letPass 47 = .ok (.goto (-38), 3) := by decide +kernel
theorem dX0_letPass_50 : decode cX0_letPass 50 = .ok (.aload_n 0, 1) := by decide +kernel
theorem dX0_letPass_51 : decode cX0_letPass 51 = .ok (.dup, 1) := by decide +kernel
theorem dX0_letPass_52 : decode cX0_letPass 52 = .ok (.getfield 28, 3) := by decide +kernel
theorem dX0_letPass_55 : decode cX0_letPass 55 = .ok (.iconst 1, 1) := by decide +kernel
theorem dX0_letPass_56 : decode cX0_letPass 56 = .ok (.iadd, 1) := by decide +kernel
theorem dX0_letPass_57 : decode cX0_letPass 57 = .ok (.putfield 28, 3) := by decide +kernel
theorem dX0_letPass_60 : decode cX0_letPass 60 = .ok (.iinc 2 1, 3) := by decide +kernel
theorem dX0_letPass_63 : decode cX0_letPass 63 = .ok (.goto (-61), 3) := by decide +kernel
theorem dX0_letPass_66 : decode cX0_letPass 66 = .ok (.return_, 1) := by decide +kernel
set_option maxRecDepth 20000 in
theorem ggX0_narrowness_J9_floorMod_7cf53 : GoodIn wsX0_narrowness wsJ9_floorMod_7cf53 := goodIn_r _ [6] (by decide +kernel) (by decide +kernel)
set_option maxRecDepth 20000 in
theorem gX0_narrowness_J9_floorMod_7cf53 : GoodIn wsX0_narrowness (va_wsS RX0 31 yJ9_floorMod_7cf53 wsJ9_floorMod_7cf53) := goodIn_app (goodIn_of _ (by decide +kernel)) ggX0_narrowness_J9_floorMod_7cf53
theorem dX0_narrowness_0 : decode cX0_narrowness 0 = .ok (.iload_n 1, 1) := by decide +kernel
theorem dX0_narrowness_1 : decode cX0_narrowness 1 = .ok (.bipush 12, 2) := by decide +kernel
theorem dX0_narrowness_3 : decode cX0_narrowness 3 = .ok (.invokestatic 31, 3) := by decide +kernel
theorem dX0_narrowness_6 : decode cX0_narrowness 6 = .ok (.istore_n 2, 1) := by decide +kernel
theorem dX0_narrowness_7 : decode cX0_narrowness 7 = .ok (.iload_n 1, 1) := by decide +kernel
theorem dX0_narrowness_8 : decode cX0_narrowness 8 = .ok (.iconst 1, 1) := by decide +kernel
theorem dX0_narrowness_9 : decode cX0_narrowness 9 = .ok (.iadd, 1) := by decide +kernel
theorem dX0_narrowness_10 : decode cX0_narrowness 10 = .ok (.bipush 12, 2) := by decide +kernel
theorem dX0_narrowness_12 : decode cX0_narrowness 12 = .ok (.invokestatic 31, 3) := by decide +kernel
theorem dX0_narrowness_15 : decode cX0_narrowness 15 = .ok (.istore_n 3, 1) := by decide +kernel
theorem dX0_narrowness_16 : decode cX0_narrowness 16 = .ok (.aload_n 0, 1) := by decide +kernel
theorem dX0_narrowness_17 : decode cX0_narrowness 17 = .ok (.getfield 9, 3) := by decide +kernel
theorem dX0_narrowness_20 : decode cX0_narrowness 20 = .ok (.iload_n 2, 1) := by decide +kernel
theorem dX0_narrowness_21 : decode cX0_narrowness 21 = .ok (.iaload, 1) := by decide +kernel
theorem dX0_narrowness_22 : decode cX0_narrowness 22 = .ok (.aload_n 0, 1) := by decide +kernel
theorem dX0_narrowness_23 : decode cX0_narrowness 23 = .ok (.getfield 15, 3) := by decide +kernel
theorem dX0_narrowness_26 : decode cX0_narrowness 26 = .ok (.iload_n 2, 1) := by decide +kernel
theorem dX0_narrowness_27 : decode cX0_narrowness 27 = .ok (.iaload, 1) := by decide +kernel
theorem dX0_narrowness_28 : decode cX0_narrowness 28 = .ok (.iadd, 1) := by decide +kernel
theorem dX0_narrowness_29 : decode cX0_narrowness 29 = .ok (.aload_n 0, 1) := by decide +kernel
theorem dX0_narrowness_30 : decode cX0_narrowness 30 = .ok (.getfield 15, 3) := by decide +kernel
theorem dX0_narrowness_33 : decode cX0_narrowness 33 = .ok (.iload_n 3, 1) := by decide +kernel
theorem dX0_narrowness_34 : decode cX0_narrowness 34 = .ok (.iaload, 1) := by decide +kernel
theorem dX0_narrowness_35 : decode cX0_narrowness 35 = .ok (.isub, 1) := by decide +kernel
theorem dX0_narrowness_36 : decode cX0_narrowness 36 = .ok (.ireturn, 1) := by decide +kernel
set_option maxRecDepth 20000 in
theorem ggX0_fifthWidth_X0_narrowness : GoodIn wsX0_fifthWidth wsX0_narrowness := goodIn_r _ [5, 6, 7, 8, 9, 10, 11, 12, 13, 14, 15, 16, 17] (by decide +kernel) (by decide +kernel)
set_option maxRecDepth 20000 in
theorem gX0_fifthWidth_X0_narrowness : GoodIn wsX0_fifthWidth (wsV RX0 53 RX0 yX0_narrowness wsX0_narrowness) := goodIn_app (goodIn_of _ (by decide +kernel)) ggX0_fifthWidth_X0_narrowness
theorem dX0_fifthWidth_0 : decode cX0_fifthWidth 0 = .ok (.sipush 702, 3) := by decide +kernel
theorem dX0_fifthWidth_3 : decode cX0_fifthWidth 3 = .ok (.aload_n 0, 1) := by decide +kernel
theorem dX0_fifthWidth_4 : decode cX0_fifthWidth 4 = .ok (.iload_n 1, 1) := by decide +kernel
theorem dX0_fifthWidth_5 : decode cX0_fifthWidth 5 = .ok (.invokevirtual 53, 3) := by decide +kernel
theorem dX0_fifthWidth_8 : decode cX0_fifthWidth 8 = .ok (.isub, 1) := by decide +kernel
theorem dX0_fifthWidth_9 : decode cX0_fifthWidth 9 = .ok (.ireturn, 1) := by decide +kernel
set_option maxRecDepth 20000 in
theorem ggX0_fifthBeats_X0_swings : GoodIn wsX0_fifthBeats wsX0_swings := goodIn_r _ [9, 10, 11, 12, 8, 13, 14, 15, 16, 17] (by decide +kernel) (by decide +kernel)
set_option maxRecDepth 20000 in
theorem gX0_fifthBeats_X0_swings : GoodIn wsX0_fifthBeats (wsV RX0 56 RX0 yX0_swings wsX0_swings) := goodIn_app (goodIn_of _ (by decide +kernel)) ggX0_fifthBeats_X0_swings
set_option maxRecDepth 20000 in
theorem ggX0_fifthBeats_X0_narrowness : GoodIn wsX0_fifthBeats wsX0_narrowness := goodIn_r _ [21, 22, 23, 14, 15, 16, 17, 24, 25, 26, 27, 28, 29] (by decide +kernel) (by decide +kernel)
set_option maxRecDepth 20000 in
theorem gX0_fifthBeats_X0_narrowness : GoodIn wsX0_fifthBeats (wsV RX0 53 RX0 yX0_narrowness wsX0_narrowness) := goodIn_app (goodIn_of _ (by decide +kernel)) ggX0_fifthBeats_X0_narrowness
theorem dX0_fifthBeats_0 : decode cX0_fifthBeats 0 = .ok (.aload_n 0, 1) := by decide +kernel
theorem dX0_fifthBeats_1 : decode cX0_fifthBeats 1 = .ok (.iload_n 1, 1) := by decide +kernel
theorem dX0_fifthBeats_2 : decode cX0_fifthBeats 2 = .ok (.invokevirtual 56, 3) := by decide +kernel
theorem dX0_fifthBeats_5 : decode cX0_fifthBeats 5 = .ok (.aload_n 0, 1) := by decide +kernel
theorem dX0_fifthBeats_6 : decode cX0_fifthBeats 6 = .ok (.iload_n 1, 1) := by decide +kernel
theorem dX0_fifthBeats_7 : decode cX0_fifthBeats 7 = .ok (.invokevirtual 53, 3) := by decide +kernel
theorem dX0_fifthBeats_10 : decode cX0_fifthBeats 10 = .ok (.invokestatic 59, 3) := by decide +kernel
theorem dX0_fifthBeats_13 : decode cX0_fifthBeats 13 = .ok (.imul, 1) := by decide +kernel
theorem dX0_fifthBeats_14 : decode cX0_fifthBeats 14 = .ok (.bipush 100, 2) := by decide +kernel
theorem dX0_fifthBeats_16 : decode cX0_fifthBeats 16 = .ok (.imul, 1) := by decide +kernel
theorem dX0_fifthBeats_17 : decode cX0_fifthBeats 17 = .ok (.sipush 577, 3) := by decide +kernel
theorem dX0_fifthBeats_20 : decode cX0_fifthBeats 20 = .ok (.idiv, 1) := by decide +kernel
theorem dX0_fifthBeats_21 : decode cX0_fifthBeats 21 = .ok (.ireturn, 1) := by decide +kernel
set_option maxRecDepth 20000 in
theorem ggX0_majorOff_X0_narrowness : GoodIn wsX0_majorOff wsX0_narrowness := goodIn_r _ [5, 6, 7, 8, 9, 10, 11, 12, 13, 14, 15, 16, 17] (by decide +kernel) (by decide +kernel)
set_option maxRecDepth 20000 in
theorem gX0_majorOff_X0_narrowness : GoodIn wsX0_majorOff (wsV RX0 53 RX0 yX0_narrowness wsX0_narrowness) := goodIn_app (goodIn_of _ (by decide +kernel)) ggX0_majorOff_X0_narrowness
theorem dX0_majorOff_0 : decode cX0_majorOff 0 = .ok (.bipush 22, 2) := by decide +kernel
theorem dX0_majorOff_2 : decode cX0_majorOff 2 = .ok (.istore_n 2, 1) := by decide +kernel
theorem dX0_majorOff_3 : decode cX0_majorOff 3 = .ok (.iconst 0, 1) := by decide +kernel
theorem dX0_majorOff_4 : decode cX0_majorOff 4 = .ok (.istore_n 3, 1) := by decide +kernel
theorem dX0_majorOff_5 : decode cX0_majorOff 5 = .ok (.iload_n 3, 1) := by decide +kernel
theorem dX0_majorOff_6 : decode cX0_majorOff 6 = .ok (.iconst 4, 1) := by decide +kernel
theorem dX0_majorOff_7 : decode cX0_majorOff 7 = .ok (.if_icmp .ge 19, 3) := by decide +kernel
theorem dX0_majorOff_10 : decode cX0_majorOff 10 = .ok (.iload_n 2, 1) := by decide +kernel
theorem dX0_majorOff_11 : decode cX0_majorOff 11 = .ok (.aload_n 0, 1) := by decide +kernel
theorem dX0_majorOff_12 : decode cX0_majorOff 12 = .ok (.iload_n 1, 1) := by decide +kernel
theorem dX0_majorOff_13 : decode cX0_majorOff 13 = .ok (.iload_n 3, 1) := by decide +kernel
theorem dX0_majorOff_14 : decode cX0_majorOff 14 = .ok (.iadd, 1) := by decide +kernel
theorem dX0_majorOff_15 : decode cX0_majorOff 15 = .ok (.invokevirtual 53, 3) := by decide +kernel
theorem dX0_majorOff_18 : decode cX0_majorOff 18 = .ok (.isub, 1) := by decide +kernel
theorem dX0_majorOff_19 : decode cX0_majorOff 19 = .ok (.istore_n 2, 1) := by decide +kernel
theorem dX0_majorOff_20 : decode cX0_majorOff 20 = .ok (.iinc 3 1, 3) := by decide +kernel
theorem dX0_majorOff_23 : decode cX0_majorOff 23 = .ok (.goto (-18), 3) := by decide +kernel
theorem dX0_majorOff_26 : decode cX0_majorOff 26 = .ok (.iload_n 2, 1) := by decide +kernel
theorem dX0_majorOff_27 : decode cX0_majorOff 27 = .ok (.ireturn, 1) := by decide +kernel
set_option maxRecDepth 20000 in
theorem ggX0_majorBeats_X0_swings : GoodIn wsX0_majorBeats wsX0_swings := goodIn_r _ [9, 10, 11, 12, 8, 13, 14, 15, 16, 17] (by decide +kernel) (by decide +kernel)
set_option maxRecDepth 20000 in
theorem gX0_majorBeats_X0_swings : GoodIn wsX0_majorBeats (wsV RX0 56 RX0 yX0_swings wsX0_swings) := goodIn_app (goodIn_of _ (by decide +kernel)) ggX0_majorBeats_X0_swings
set_option maxRecDepth 20000 in
theorem ggX0_majorBeats_X0_majorOff : GoodIn wsX0_majorBeats wsX0_majorOff := goodIn_r _ [21, 22, 23, 24, 8, 25, 26, 27, 14, 15, 16, 17, 28, 29, 30, 31, 32, 33] (by decide +kernel) (by decide +kernel)
set_option maxRecDepth 20000 in
theorem gX0_majorBeats_X0_majorOff : GoodIn wsX0_majorBeats (wsV RX0 44 RX0 yX0_majorOff wsX0_majorOff) := goodIn_app (goodIn_of _ (by decide +kernel)) ggX0_majorBeats_X0_majorOff
theorem dX0_majorBeats_0 : decode cX0_majorBeats 0 = .ok (.aload_n 0, 1) := by decide +kernel
theorem dX0_majorBeats_1 : decode cX0_majorBeats 1 = .ok (.iload_n 1, 1) := by decide +kernel
theorem dX0_majorBeats_2 : decode cX0_majorBeats 2 = .ok (.invokevirtual 56, 3) := by decide +kernel
theorem dX0_majorBeats_5 : decode cX0_majorBeats 5 = .ok (.aload_n 0, 1) := by decide +kernel
theorem dX0_majorBeats_6 : decode cX0_majorBeats 6 = .ok (.iload_n 1, 1) := by decide +kernel
theorem dX0_majorBeats_7 : decode cX0_majorBeats 7 = .ok (.invokevirtual 44, 3) := by decide +kernel
theorem dX0_majorBeats_10 : decode cX0_majorBeats 10 = .ok (.invokestatic 59, 3) := by decide +kernel
theorem dX0_majorBeats_13 : decode cX0_majorBeats 13 = .ok (.imul, 1) := by decide +kernel
theorem dX0_majorBeats_14 : decode cX0_majorBeats 14 = .ok (.bipush 100, 2) := by decide +kernel
theorem dX0_majorBeats_16 : decode cX0_majorBeats 16 = .ok (.imul, 1) := by decide +kernel
theorem dX0_majorBeats_17 : decode cX0_majorBeats 17 = .ok (.sipush 346, 3) := by decide +kernel
theorem dX0_majorBeats_20 : decode cX0_majorBeats 20 = .ok (.idiv, 1) := by decide +kernel
theorem dX0_majorBeats_21 : decode cX0_majorBeats 21 = .ok (.ireturn, 1) := by decide +kernel
set_option maxRecDepth 20000 in
theorem ggX0_minorWidth_X0_narrowness : GoodIn wsX0_minorWidth wsX0_narrowness := goodIn_r _ [5, 6, 7, 8, 9, 10, 11, 12, 13, 14, 15, 16, 17] (by decide +kernel) (by decide +kernel)
set_option maxRecDepth 20000 in
theorem gX0_minorWidth_X0_narrowness : GoodIn wsX0_minorWidth (wsV RX0 53 RX0 yX0_narrowness wsX0_narrowness) := goodIn_app (goodIn_of _ (by decide +kernel)) ggX0_minorWidth_X0_narrowness
theorem dX0_minorWidth_0 : decode cX0_minorWidth 0 = .ok (.sipush 294, 3) := by decide +kernel
theorem dX0_minorWidth_3 : decode cX0_minorWidth 3 = .ok (.istore_n 2, 1) := by decide +kernel
theorem dX0_minorWidth_4 : decode cX0_minorWidth 4 = .ok (.bipush 9, 2) := by decide +kernel
theorem dX0_minorWidth_6 : decode cX0_minorWidth 6 = .ok (.istore_n 3, 1) := by decide +kernel
theorem dX0_minorWidth_7 : decode cX0_minorWidth 7 = .ok (.iload_n 3, 1) := by decide +kernel
theorem dX0_minorWidth_8 : decode cX0_minorWidth 8 = .ok (.bipush 12, 2) := by decide +kernel
theorem dX0_minorWidth_10 : decode cX0_minorWidth 10 = .ok (.if_icmp .ge 19, 3) := by decide +kernel
theorem dX0_minorWidth_13 : decode cX0_minorWidth 13 = .ok (.iload_n 2, 1) := by decide +kernel
theorem dX0_minorWidth_14 : decode cX0_minorWidth 14 = .ok (.aload_n 0, 1) := by decide +kernel
theorem dX0_minorWidth_15 : decode cX0_minorWidth 15 = .ok (.iload_n 1, 1) := by decide +kernel
theorem dX0_minorWidth_16 : decode cX0_minorWidth 16 = .ok (.iload_n 3, 1) := by decide +kernel
theorem dX0_minorWidth_17 : decode cX0_minorWidth 17 = .ok (.iadd, 1) := by decide +kernel
theorem dX0_minorWidth_18 : decode cX0_minorWidth 18 = .ok (.invokevirtual 53, 3) := by decide +kernel
theorem dX0_minorWidth_21 : decode cX0_minorWidth 21 = .ok (.iadd, 1) := by decide +kernel
theorem dX0_minorWidth_22 : decode cX0_minorWidth 22 = .ok (.istore_n 2, 1) := by decide +kernel
theorem dX0_minorWidth_23 : decode cX0_minorWidth 23 = .ok (.iinc 3 1, 3) := by decide +kernel
theorem dX0_minorWidth_26 : decode cX0_minorWidth 26 = .ok (.goto (-19), 3) := by decide +kernel
theorem dX0_minorWidth_29 : decode cX0_minorWidth 29 = .ok (.iload_n 2, 1) := by decide +kernel
theorem dX0_minorWidth_30 : decode cX0_minorWidth 30 = .ok (.ireturn, 1) := by decide +kernel
set_option maxRecDepth 20000 in
theorem ggX0_keyboardNumber_J9_floorMod_7cf53 : GoodIn wsX0_keyboardNumber wsJ9_floorMod_7cf53 := goodIn_r _ [4] (by decide +kernel) (by decide +kernel)
set_option maxRecDepth 20000 in
theorem gX0_keyboardNumber_J9_floorMod_7cf53 : GoodIn wsX0_keyboardNumber (va_wsS RX0 31 yJ9_floorMod_7cf53 wsJ9_floorMod_7cf53) := goodIn_app (goodIn_of _ (by decide +kernel)) ggX0_keyboardNumber_J9_floorMod_7cf53
theorem dX0_keyboardNumber_0 : decode cX0_keyboardNumber 0 = .ok (.bipush 7, 2) := by decide +kernel
theorem dX0_keyboardNumber_2 : decode cX0_keyboardNumber 2 = .ok (.iload_n 1, 1) := by decide +kernel
theorem dX0_keyboardNumber_3 : decode cX0_keyboardNumber 3 = .ok (.imul, 1) := by decide +kernel
theorem dX0_keyboardNumber_4 : decode cX0_keyboardNumber 4 = .ok (.bipush 12, 2) := by decide +kernel
theorem dX0_keyboardNumber_6 : decode cX0_keyboardNumber 6 = .ok (.invokestatic 31, 3) := by decide +kernel
theorem dX0_keyboardNumber_9 : decode cX0_keyboardNumber 9 = .ok (.ireturn, 1) := by decide +kernel
set_option maxRecDepth 20000 in
theorem ggX0_swings_X0_keyboardNumber : GoodIn wsX0_swings wsX0_keyboardNumber := goodIn_r _ [5, 6, 7, 8, 9] (by decide +kernel) (by decide +kernel)
set_option maxRecDepth 20000 in
theorem gX0_swings_X0_keyboardNumber : GoodIn wsX0_swings (wsV RX0 65 RX0 yX0_keyboardNumber wsX0_keyboardNumber) := goodIn_app (goodIn_of _ (by decide +kernel)) ggX0_swings_X0_keyboardNumber
theorem dX0_swings_0 : decode cX0_swings 0 = .ok (.getstatic 62, 3) := by decide +kernel
theorem dX0_swings_3 : decode cX0_swings 3 = .ok (.aload_n 0, 1) := by decide +kernel
theorem dX0_swings_4 : decode cX0_swings 4 = .ok (.iload_n 1, 1) := by decide +kernel
theorem dX0_swings_5 : decode cX0_swings 5 = .ok (.invokevirtual 65, 3) := by decide +kernel
theorem dX0_swings_8 : decode cX0_swings 8 = .ok (.iaload, 1) := by decide +kernel
theorem dX0_swings_9 : decode cX0_swings 9 = .ok (.ireturn, 1) := by decide +kernel
set_option maxRecDepth 20000 in
theorem ggX0_height_X0_fifthWidth : GoodIn wsX0_height wsX0_fifthWidth := goodIn_r _ [5, 6, 7, 8, 4, 9, 10, 11, 12, 13, 14, 15, 16, 17, 18, 19, 20, 21] (by decide +kernel) (by decide +kernel)
set_option maxRecDepth 20000 in
theorem gX0_height_X0_fifthWidth : GoodIn wsX0_height (wsV RX0 68 RX0 yX0_fifthWidth wsX0_fifthWidth) := goodIn_app (goodIn_of _ (by decide +kernel)) ggX0_height_X0_fifthWidth
set_option maxRecDepth 20000 in
theorem ggX0_height_J9_floorMod_7cf53 : GoodIn wsX0_height wsJ9_floorMod_7cf53 := goodIn_r _ [15] (by decide +kernel) (by decide +kernel)
set_option maxRecDepth 20000 in
theorem gX0_height_J9_floorMod_7cf53 : GoodIn wsX0_height (va_wsS RX0 31 yJ9_floorMod_7cf53 wsJ9_floorMod_7cf53) := goodIn_app (goodIn_of _ (by decide +kernel)) ggX0_height_J9_floorMod_7cf53
theorem dX0_height_0 : decode cX0_height 0 = .ok (.iconst 0, 1) := by decide +kernel
theorem dX0_height_1 : decode cX0_height 1 = .ok (.istore_n 2, 1) := by decide +kernel
theorem dX0_height_2 : decode cX0_height 2 = .ok (.iconst 0, 1) := by decide +kernel
theorem dX0_height_3 : decode cX0_height 3 = .ok (.istore_n 3, 1) := by decide +kernel
theorem dX0_height_4 : decode cX0_height 4 = .ok (.iload_n 3, 1) := by decide +kernel
theorem dX0_height_5 : decode cX0_height 5 = .ok (.iload_n 1, 1) := by decide +kernel
theorem dX0_height_6 : decode cX0_height 6 = .ok (.if_icmp .ge 17, 3) := by decide +kernel
theorem dX0_height_9 : decode cX0_height 9 = .ok (.iload_n 2, 1) := by decide +kernel
theorem dX0_height_10 : decode cX0_height 10 = .ok (.aload_n 0, 1) := by decide +kernel
theorem dX0_height_11 : decode cX0_height 11 = .ok (.iload_n 3, 1) := by decide +kernel
theorem dX0_height_12 : decode cX0_height 12 = .ok (.invokevirtual 68, 3) := by decide +kernel
theorem dX0_height_15 : decode cX0_height 15 = .ok (.iadd, 1) := by decide +kernel
theorem dX0_height_16 : decode cX0_height 16 = .ok (.istore_n 2, 1) := by decide +kernel
theorem dX0_height_17 : decode cX0_height 17 = .ok (.iinc 3 1, 3) := by decide +kernel
theorem dX0_height_20 : decode cX0_height 20 = .ok (.goto (-16), 3) := by decide +kernel
theorem dX0_height_23 : decode cX0_height 23 = .ok (.iload_n 2, 1) := by decide +kernel
theorem dX0_height_24 : decode cX0_height 24 = .ok (.sipush 1200, 3) := by decide +kernel
theorem dX0_height_27 : decode cX0_height 27 = .ok (.invokestatic 31, 3) := by decide +kernel
theorem dX0_height_30 : decode cX0_height 30 = .ok (.ireturn, 1) := by decide +kernel
set_option maxRecDepth 20000 in
theorem ggX0_sourness_X0_majorOff : GoodIn wsX0_sourness wsX0_majorOff := goodIn_r _ [9, 10, 11, 12, 8, 13, 14, 15, 16, 17, 18, 19, 20, 21, 22, 23, 24, 25] (by decide +kernel) (by decide +kernel)
set_option maxRecDepth 20000 in
theorem gX0_sourness_X0_majorOff : GoodIn wsX0_sourness (wsV RX0 44 RX0 yX0_majorOff wsX0_majorOff) := goodIn_app (goodIn_of _ (by decide +kernel)) ggX0_sourness_X0_majorOff
set_option maxRecDepth 20000 in
theorem ggX0_sourness_X0_narrowness : GoodIn wsX0_sourness wsX0_narrowness := goodIn_r _ [13, 14, 15, 16, 17, 18, 19, 20, 21, 22, 23, 24, 25] (by decide +kernel) (by decide +kernel)
set_option maxRecDepth 20000 in
theorem gX0_sourness_X0_narrowness : GoodIn wsX0_sourness (wsV RX0 53 RX0 yX0_narrowness wsX0_narrowness) := goodIn_app (goodIn_of _ (by decide +kernel)) ggX0_sourness_X0_narrowness
theorem dX0_sourness_0 : decode cX0_sourness 0 = .ok (.aload_n 0, 1) := by decide +kernel
theorem dX0_sourness_1 : decode cX0_sourness 1 = .ok (.iload_n 1, 1) := by decide +kernel
theorem dX0_sourness_2 : decode cX0_sourness 2 = .ok (.invokevirtual 44, 3) := by decide +kernel
theorem dX0_sourness_5 : decode cX0_sourness 5 = .ok (.invokestatic 59, 3) := by decide +kernel
theorem dX0_sourness_8 : decode cX0_sourness 8 = .ok (.iconst 2, 1) := by decide +kernel
theorem dX0_sourness_9 : decode cX0_sourness 9 = .ok (.aload_n 0, 1) := by decide +kernel
theorem dX0_sourness_10 : decode cX0_sourness 10 = .ok (.iload_n 1, 1) := by decide +kernel
theorem dX0_sourness_11 : decode cX0_sourness 11 = .ok (.invokevirtual 53, 3) := by decide +kernel
theorem dX0_sourness_14 : decode cX0_sourness 14 = .ok (.invokestatic 59, 3) := by decide +kernel
theorem dX0_sourness_17 : decode cX0_sourness 17 = .ok (.imul, 1) := by decide +kernel
theorem dX0_sourness_18 : decode cX0_sourness 18 = .ok (.iadd, 1) := by decide +kernel
theorem dX0_sourness_19 : decode cX0_sourness 19 = .ok (.ireturn, 1) := by decide +kernel
set_option maxRecDepth 20000 in
theorem ggX0_place_X0_sourness : GoodIn wsX0_place wsX0_sourness := goodIn_r _ [5, 6, 7, 8, 9, 10, 11, 12, 4, 13, 14, 15, 16, 17, 18, 19, 20, 21, 22, 23, 24, 25, 26, 27, 28, 29] (by decide +kernel) (by decide +kernel)
set_option maxRecDepth 20000 in
theorem gX0_place_X0_sourness : GoodIn wsX0_place (wsV RX0 71 RX0 yX0_sourness wsX0_sourness) := goodIn_app (goodIn_of _ (by decide +kernel)) ggX0_place_X0_sourness
theorem dX0_place_0 : decode cX0_place 0 = .ok (.aload_n 0, 1) := by decide +kernel
theorem dX0_place_1 : decode cX0_place 1 = .ok (.iload_n 1, 1) := by decide +kernel
theorem dX0_place_2 : decode cX0_place 2 = .ok (.invokevirtual 71, 3) := by decide +kernel
theorem dX0_place_5 : decode cX0_place 5 = .ok (.istore_n 2, 1) := by decide +kernel
theorem dX0_place_6 : decode cX0_place 6 = .ok (.iconst 1, 1) := by decide +kernel
theorem dX0_place_7 : decode cX0_place 7 = .ok (.istore_n 3, 1) := by decide +kernel
theorem dX0_place_8 : decode cX0_place 8 = .ok (.iconst 0, 1) := by decide +kernel
theorem dX0_place_9 : decode cX0_place 9 = .ok (.istore 4, 2) := by decide +kernel
theorem dX0_place_11 : decode cX0_place 11 = .ok (.iload 4, 2) := by decide +kernel
theorem dX0_place_13 : decode cX0_place 13 = .ok (.bipush 12, 2) := by decide +kernel
theorem dX0_place_15 : decode cX0_place 15 = .ok (.if_icmp .ge 38, 3) := by decide +kernel
theorem dX0_place_18 : decode cX0_place 18 = .ok (.aload_n 0, 1) := by decide +kernel
theorem dX0_place_19 : decode cX0_place 19 = .ok (.iload 4, 2) := by decide +kernel
theorem dX0_place_21 : decode cX0_place 21 = .ok (.invokevirtual 71, 3) := by decide +kernel
theorem dX0_place_24 : decode cX0_place 24 = .ok (.istore 5, 2) := by decide +kernel
theorem dX0_place_26 : decode cX0_place 26 = .ok (.iload 5, 2) := by decide +kernel
theorem dX0_place_28 : decode cX0_place 28 = .ok (.iload_n 2, 1) := by decide +kernel
theorem dX0_place_29 : decode cX0_place 29 = .ok (.if_icmp .lt 15, 3) := by decide +kernel
theorem dX0_place_32 : decode cX0_place 32 = .ok (.iload 5, 2) := by decide +kernel
theorem dX0_place_34 : decode cX0_place 34 = .ok (.iload_n 2, 1) := by decide +kernel
theorem dX0_place_35 : decode cX0_place 35 = .ok (.if_icmp .ne 12, 3) := by decide +kernel
theorem dX0_place_38 : decode cX0_place 38 = .ok (.iload 4, 2) := by decide +kernel
theorem dX0_place_40 : decode cX0_place 40 = .ok (.iload_n 1, 1) := by decide +kernel
theorem dX0_place_41 : decode cX0_place 41 = .ok (.if_icmp .ge 6, 3) := by decide +kernel
theorem dX0_place_44 : decode cX0_place 44 = .ok (.iinc 3 1, 3) := by decide +kernel
theorem dX0_place_47 : decode cX0_place 47 = .ok (.iinc 4 1, 3) := by decide +kernel
theorem dX0_place_50 : decode cX0_place 50 = .ok (.goto (-39), 3) := by decide +kernel
theorem dX0_place_53 : decode cX0_place 53 = .ok (.iload_n 3, 1) := by decide +kernel
theorem dX0_place_54 : decode cX0_place 54 = .ok (.ireturn, 1) := by decide +kernel
set_option maxRecDepth 20000 in
theorem ggX0_cost_X0_sourness : GoodIn wsX0_cost wsX0_sourness := goodIn_r _ [6, 7, 8, 9, 10, 11, 12, 13, 5, 14, 15, 16, 17, 18, 19, 20, 21, 22, 23, 24, 25, 26, 27, 28, 29, 30] (by decide +kernel) (by decide +kernel)
set_option maxRecDepth 20000 in
theorem gX0_cost_X0_sourness : GoodIn wsX0_cost (wsV RX0 71 RX0 yX0_sourness wsX0_sourness) := goodIn_app (goodIn_of _ (by decide +kernel)) ggX0_cost_X0_sourness
theorem dX0_cost_0 : decode cX0_cost 0 = .ok (.iconst 0, 1) := by decide +kernel
theorem dX0_cost_1 : decode cX0_cost 1 = .ok (.istore_n 1, 1) := by decide +kernel
theorem dX0_cost_2 : decode cX0_cost 2 = .ok (.iconst 0, 1) := by decide +kernel
theorem dX0_cost_3 : decode cX0_cost 3 = .ok (.istore_n 2, 1) := by decide +kernel
theorem dX0_cost_4 : decode cX0_cost 4 = .ok (.iload_n 2, 1) := by decide +kernel
theorem dX0_cost_5 : decode cX0_cost 5 = .ok (.bipush 12, 2) := by decide +kernel
theorem dX0_cost_7 : decode cX0_cost 7 = .ok (.if_icmp .ge 24, 3) := by decide +kernel
theorem dX0_cost_10 : decode cX0_cost 10 = .ok (.iload_n 1, 1) := by decide +kernel
theorem dX0_cost_11 : decode cX0_cost 11 = .ok (.aload_n 0, 1) := by decide +kernel
theorem dX0_cost_12 : decode cX0_cost 12 = .ok (.iload_n 2, 1) := by decide +kernel
theorem dX0_cost_13 : decode cX0_cost 13 = .ok (.invokevirtual 71, 3) := by decide +kernel
theorem dX0_cost_16 : decode cX0_cost 16 = .ok (.aload_n 0, 1) := by decide +kernel
theorem dX0_cost_17 : decode cX0_cost 17 = .ok (.getfield 21, 3) := by decide +kernel
theorem dX0_cost_20 : decode cX0_cost 20 = .ok (.iload_n 2, 1) := by decide +kernel
theorem dX0_cost_21 : decode cX0_cost 21 = .ok (.iaload, 1) := by decide +kernel
theorem dX0_cost_22 : decode cX0_cost 22 = .ok (.imul, 1) := by decide +kernel
theorem dX0_cost_23 : decode cX0_cost 23 = .ok (.iadd, 1) := by decide +kernel
theorem dX0_cost_24 : decode cX0_cost 24 = .ok (.istore_n 1, 1) := by decide +kernel
theorem dX0_cost_25 : decode cX0_cost 25 = .ok (.iinc 2 1, 3) := by decide +kernel
theorem dX0_cost_28 : decode cX0_cost 28 = .ok (.goto (-24), 3) := by decide +kernel
theorem dX0_cost_31 : decode cX0_cost 31 = .ok (.iload_n 1, 1) := by decide +kernel
theorem dX0_cost_32 : decode cX0_cost 32 = .ok (.ireturn, 1) := by decide +kernel
set_option maxRecDepth 20000 in
theorem ggX0_mostMajorOff_X0_majorOff : GoodIn wsX0_mostMajorOff wsX0_majorOff := goodIn_r _ [12, 13, 14, 15, 11, 16, 17, 18, 19, 20, 21, 22, 23, 24, 25, 26, 27, 28] (by decide +kernel) (by decide +kernel)
set_option maxRecDepth 20000 in
theorem gX0_mostMajorOff_X0_majorOff : GoodIn wsX0_mostMajorOff (wsV RX0 44 RX0 yX0_majorOff wsX0_majorOff) := goodIn_app (goodIn_of _ (by decide +kernel)) ggX0_mostMajorOff_X0_majorOff
theorem dX0_mostMajorOff_0 : decode cX0_mostMajorOff 0 = .ok (.iconst 0, 1) := by decide +kernel
theorem dX0_mostMajorOff_1 : decode cX0_mostMajorOff 1 = .ok (.istore_n 1, 1) := by decide +kernel
theorem dX0_mostMajorOff_2 : decode cX0_mostMajorOff 2 = .ok (.iconst 0, 1) := by decide +kernel
theorem dX0_mostMajorOff_3 : decode cX0_mostMajorOff 3 = .ok (.istore_n 2, 1) := by decide +kernel
theorem dX0_mostMajorOff_4 : decode cX0_mostMajorOff 4 = .ok (.iload_n 2, 1) := by decide +kernel
theorem dX0_mostMajorOff_5 : decode cX0_mostMajorOff 5 = .ok (.bipush 12, 2) := by decide +kernel
theorem dX0_mostMajorOff_7 : decode cX0_mostMajorOff 7 = .ok (.if_icmp .ge 22, 3) := by decide +kernel
theorem dX0_mostMajorOff_10 : decode cX0_mostMajorOff 10 = .ok (.iload_n 1, 1) := by decide +kernel
theorem dX0_mostMajorOff_11 : decode cX0_mostMajorOff 11 = .ok (.aload_n 0, 1) := by decide +kernel
theorem dX0_mostMajorOff_12 : decode cX0_mostMajorOff 12 = .ok (.iload_n 2, 1) := by decide +kernel
theorem dX0_mostMajorOff_13 : decode cX0_mostMajorOff 13 = .ok (.invokevirtual 44, 3) := by decide +kernel
theorem dX0_mostMajorOff_16 : decode cX0_mostMajorOff 16 = .ok (.invokestatic 59, 3) := by decide +kernel
theorem dX0_mostMajorOff_19 : decode cX0_mostMajorOff 19 = .ok (.invokestatic 50, 3) := by decide +kernel
theorem dX0_mostMajorOff_22 : decode cX0_mostMajorOff 22 = .ok (.istore_n 1, 1) := by decide +kernel
theorem dX0_mostMajorOff_23 : decode cX0_mostMajorOff 23 = .ok (.iinc 2 1, 3) := by decide +kernel
theorem dX0_mostMajorOff_26 : decode cX0_mostMajorOff 26 = .ok (.goto (-22), 3) := by decide +kernel
theorem dX0_mostMajorOff_29 : decode cX0_mostMajorOff 29 = .ok (.iload_n 1, 1) := by decide +kernel
theorem dX0_mostMajorOff_30 : decode cX0_mostMajorOff 30 = .ok (.ireturn, 1) := by decide +kernel
set_option maxRecDepth 20000 in
theorem ggX0_pureFifths_X0_narrowness : GoodIn wsX0_pureFifths wsX0_narrowness := goodIn_r _ [5, 6, 7, 8, 9, 10, 11, 12, 13, 14, 15, 16, 17] (by decide +kernel) (by decide +kernel)
set_option maxRecDepth 20000 in
theorem gX0_pureFifths_X0_narrowness : GoodIn wsX0_pureFifths (wsV RX0 53 RX0 yX0_narrowness wsX0_narrowness) := goodIn_app (goodIn_of _ (by decide +kernel)) ggX0_pureFifths_X0_narrowness
theorem dX0_pureFifths_0 : decode cX0_pureFifths 0 = .ok (.iconst 0, 1) := by decide +kernel
theorem dX0_pureFifths_1 : decode cX0_pureFifths 1 = .ok (.istore_n 1, 1) := by decide +kernel
theorem dX0_pureFifths_2 : decode cX0_pureFifths 2 = .ok (.iconst 0, 1) := by decide +kernel
theorem dX0_pureFifths_3 : decode cX0_pureFifths 3 = .ok (.istore_n 2, 1) := by decide +kernel
theorem dX0_pureFifths_4 : decode cX0_pureFifths 4 = .ok (.iload_n 2, 1) := by decide +kernel
theorem dX0_pureFifths_5 : decode cX0_pureFifths 5 = .ok (.bipush 12, 2) := by decide +kernel
theorem dX0_pureFifths_7 : decode cX0_pureFifths 7 = .ok (.if_icmp .ge 20, 3) := by decide +kernel
theorem dX0_pureFifths_10 : decode cX0_pureFifths 10 = .ok (.aload_n 0, 1) := by decide +kernel
theorem dX0_pureFifths_11 : decode cX0_pureFifths 11 = .ok (.iload_n 2, 1) := by decide +kernel
theorem dX0_pureFifths_12 : decode cX0_pureFifths 12 = .ok (.invokevirtual 53, 3) := by decide +kernel
theorem dX0_pureFifths_15 : decode cX0_pureFifths 15 = .ok (.ifCond .ne 6, 3) := by decide +kernel
theorem dX0_pureFifths_18 : decode cX0_pureFifths 18 = .ok (.iinc 1 1, 3) := by decide +kernel
theorem dX0_pureFifths_21 : decode cX0_pureFifths 21 = .ok (.iinc 2 1, 3) := by decide +kernel
theorem dX0_pureFifths_24 : decode cX0_pureFifths 24 = .ok (.goto (-20), 3) := by decide +kernel
theorem dX0_pureFifths_27 : decode cX0_pureFifths 27 = .ok (.iload_n 1, 1) := by decide +kernel
theorem dX0_pureFifths_28 : decode cX0_pureFifths 28 = .ok (.ireturn, 1) := by decide +kernel
theorem dX0_mostOff_0 : decode cX0_mostOff 0 = .ok (.iconst 0, 1) := by decide +kernel
theorem dX0_mostOff_1 : decode cX0_mostOff 1 = .ok (.istore_n 1, 1) := by decide +kernel
theorem dX0_mostOff_2 : decode cX0_mostOff 2 = .ok (.iconst 0, 1) := by decide +kernel
theorem dX0_mostOff_3 : decode cX0_mostOff 3 = .ok (.istore_n 2, 1) := by decide +kernel
theorem dX0_mostOff_4 : decode cX0_mostOff 4 = .ok (.iload_n 2, 1) := by decide +kernel
theorem dX0_mostOff_5 : decode cX0_mostOff 5 = .ok (.bipush 12, 2) := by decide +kernel
theorem dX0_mostOff_7 : decode cX0_mostOff 7 = .ok (.if_icmp .ge 23, 3) := by decide +kernel
theorem dX0_mostOff_10 : decode cX0_mostOff 10 = .ok (.iload_n 1, 1) := by decide +kernel
theorem dX0_mostOff_11 : decode cX0_mostOff 11 = .ok (.aload_n 0, 1) := by decide +kernel
theorem dX0_mostOff_12 : decode cX0_mostOff 12 = .ok (.getfield 15, 3) := by decide +kernel
theorem dX0_mostOff_15 : decode cX0_mostOff 15 = .ok (.iload_n 2, 1) := by decide +kernel
theorem dX0_mostOff_16 : decode cX0_mostOff 16 = .ok (.iaload, 1) := by decide +kernel
theorem dX0_mostOff_17 : decode cX0_mostOff 17 = .ok (.invokestatic 59, 3) := by decide +kernel
theorem dX0_mostOff_20 : decode cX0_mostOff 20 = .ok (.invokestatic 50, 3) := by decide +kernel
theorem dX0_mostOff_23 : decode cX0_mostOff 23 = .ok (.istore_n 1, 1) := by decide +kernel
theorem dX0_mostOff_24 : decode cX0_mostOff 24 = .ok (.iinc 2 1, 3) := by decide +kernel
theorem dX0_mostOff_27 : decode cX0_mostOff 27 = .ok (.goto (-23), 3) := by decide +kernel
theorem dX0_mostOff_30 : decode cX0_mostOff 30 = .ok (.iload_n 1, 1) := by decide +kernel
theorem dX0_mostOff_31 : decode cX0_mostOff 31 = .ok (.ireturn, 1) := by decide +kernel
theorem dX0_allOff_0 : decode cX0_allOff 0 = .ok (.iconst 0, 1) := by decide +kernel
theorem dX0_allOff_1 : decode cX0_allOff 1 = .ok (.istore_n 1, 1) := by decide +kernel
theorem dX0_allOff_2 : decode cX0_allOff 2 = .ok (.iconst 0, 1) := by decide +kernel
theorem dX0_allOff_3 : decode cX0_allOff 3 = .ok (.istore_n 2, 1) := by decide +kernel
theorem dX0_allOff_4 : decode cX0_allOff 4 = .ok (.iload_n 2, 1) := by decide +kernel
theorem dX0_allOff_5 : decode cX0_allOff 5 = .ok (.bipush 12, 2) := by decide +kernel
theorem dX0_allOff_7 : decode cX0_allOff 7 = .ok (.if_icmp .ge 21, 3) := by decide +kernel
theorem dX0_allOff_10 : decode cX0_allOff 10 = .ok (.iload_n 1, 1) := by decide +kernel
theorem dX0_allOff_11 : decode cX0_allOff 11 = .ok (.aload_n 0, 1) := by decide +kernel
theorem dX0_allOff_12 : decode cX0_allOff 12 = .ok (.getfield 15, 3) := by decide +kernel
theorem dX0_allOff_15 : decode cX0_allOff 15 = .ok (.iload_n 2, 1) := by decide +kernel
theorem dX0_allOff_16 : decode cX0_allOff 16 = .ok (.iaload, 1) := by decide +kernel
theorem dX0_allOff_17 : decode cX0_allOff 17 = .ok (.invokestatic 59, 3) := by decide +kernel
theorem dX0_allOff_20 : decode cX0_allOff 20 = .ok (.iadd, 1) := by decide +kernel
theorem dX0_allOff_21 : decode cX0_allOff 21 = .ok (.istore_n 1, 1) := by decide +kernel
theorem dX0_allOff_22 : decode cX0_allOff 22 = .ok (.iinc 2 1, 3) := by decide +kernel
theorem dX0_allOff_25 : decode cX0_allOff 25 = .ok (.goto (-21), 3) := by decide +kernel
theorem dX0_allOff_28 : decode cX0_allOff 28 = .ok (.iload_n 1, 1) := by decide +kernel
theorem dX0_allOff_29 : decode cX0_allOff 29 = .ok (.ireturn, 1) := by decide +kernel
set_option maxRecDepth 20000 in
theorem ggX0_fastestBeats_X0_fifthBeats : GoodIn wsX0_fastestBeats wsX0_fifthBeats := goodIn_r _ [10, 11, 12, 4, 13, 14, 15, 16, 9, 17, 18, 19, 20, 21, 22, 23, 24, 25, 26, 27, 28, 29, 30, 31, 32, 33, 34, 35, 36, 37] (by decide +kernel) (by decide +kernel)
set_option maxRecDepth 20000 in
theorem gX0_fastestBeats_X0_fifthBeats : GoodIn wsX0_fastestBeats (wsV RX0 74 RX0 yX0_fifthBeats wsX0_fifthBeats) := goodIn_app (goodIn_of _ (by decide +kernel)) ggX0_fastestBeats_X0_fifthBeats
theorem dX0_fastestBeats_0 : decode cX0_fastestBeats 0 = .ok (.iconst 0, 1) := by decide +kernel
theorem dX0_fastestBeats_1 : decode cX0_fastestBeats 1 = .ok (.istore_n 1, 1) := by decide +kernel
theorem dX0_fastestBeats_2 : decode cX0_fastestBeats 2 = .ok (.iconst 0, 1) := by decide +kernel
theorem dX0_fastestBeats_3 : decode cX0_fastestBeats 3 = .ok (.istore_n 2, 1) := by decide +kernel
theorem dX0_fastestBeats_4 : decode cX0_fastestBeats 4 = .ok (.iload_n 2, 1) := by decide +kernel
theorem dX0_fastestBeats_5 : decode cX0_fastestBeats 5 = .ok (.bipush 12, 2) := by decide +kernel
theorem dX0_fastestBeats_7 : decode cX0_fastestBeats 7 = .ok (.if_icmp .ge 27, 3) := by decide +kernel
theorem dX0_fastestBeats_10 : decode cX0_fastestBeats 10 = .ok (.iload_n 2, 1) := by decide +kernel
theorem dX0_fastestBeats_11 : decode cX0_fastestBeats 11 = .ok (.aload_n 0, 1) := by decide +kernel
theorem dX0_fastestBeats_12 : decode cX0_fastestBeats 12 = .ok (.getfield 24, 3) := by decide +kernel
theorem dX0_fastestBeats_15 : decode cX0_fastestBeats 15 = .ok (.if_icmp .eq 13, 3) := by decide +kernel
theorem dX0_fastestBeats_18 : decode cX0_fastestBeats 18 = .ok (.iload_n 1, 1) := by decide +kernel
theorem dX0_fastestBeats_19 : decode cX0_fastestBeats 19 = .ok (.aload_n 0, 1) := by decide +kernel
theorem dX0_fastestBeats_20 : decode cX0_fastestBeats 20 = .ok (.iload_n 2, 1) := by decide +kernel
theorem dX0_fastestBeats_21 : decode cX0_fastestBeats 21 = .ok (.invokevirtual 74, 3) := by decide +kernel
theorem dX0_fastestBeats_24 : decode cX0_fastestBeats 24 = .ok (.invokestatic 50, 3) := by decide +kernel
theorem dX0_fastestBeats_27 : decode cX0_fastestBeats 27 = .ok (.istore_n 1, 1) := by decide +kernel
theorem dX0_fastestBeats_28 : decode cX0_fastestBeats 28 = .ok (.iinc 2 1, 3) := by decide +kernel
theorem dX0_fastestBeats_31 : decode cX0_fastestBeats 31 = .ok (.goto (-27), 3) := by decide +kernel
theorem dX0_fastestBeats_34 : decode cX0_fastestBeats 34 = .ok (.iload_n 1, 1) := by decide +kernel
theorem dX0_fastestBeats_35 : decode cX0_fastestBeats 35 = .ok (.ireturn, 1) := by decide +kernel
set_option maxRecDepth 20000 in
theorem ggX0_tellFifth_J9_floorMod_7cf53 : GoodIn wsX0_tellFifth wsJ9_floorMod_7cf53 := goodIn_r _ [6] (by decide +kernel) (by decide +kernel)
set_option maxRecDepth 20000 in
theorem gX0_tellFifth_J9_floorMod_7cf53 : GoodIn wsX0_tellFifth (va_wsS RX0 31 yJ9_floorMod_7cf53 wsJ9_floorMod_7cf53) := goodIn_app (goodIn_of _ (by decide +kernel)) ggX0_tellFifth_J9_floorMod_7cf53
set_option maxRecDepth 20000 in
theorem ggX0_tellFifth_X0_narrowness : GoodIn wsX0_tellFifth wsX0_narrowness := goodIn_r _ [11, 1, 12, 3, 4, 5, 6, 33, 34, 35, 36, 37, 38] (by decide +kernel) (by decide +kernel)
set_option maxRecDepth 20000 in
theorem gX0_tellFifth_X0_narrowness : GoodIn wsX0_tellFifth (wsV RX0 53 RX0 yX0_narrowness wsX0_narrowness) := goodIn_app (goodIn_of _ (by decide +kernel)) ggX0_tellFifth_X0_narrowness
set_option maxRecDepth 20000 in
theorem ggX0_tellFifth_X0_fifthWidth : GoodIn wsX0_tellFifth wsX0_fifthWidth := goodIn_r _ [16, 7, 8, 9, 10, 11, 1, 12, 3, 4, 5, 6, 33, 34, 35, 36, 37, 38] (by decide +kernel) (by decide +kernel)
set_option maxRecDepth 20000 in
theorem gX0_tellFifth_X0_fifthWidth : GoodIn wsX0_tellFifth (wsV RX0 68 RX0 yX0_fifthWidth wsX0_fifthWidth) := goodIn_app (goodIn_of _ (by decide +kernel)) ggX0_tellFifth_X0_fifthWidth
set_option maxRecDepth 20000 in
theorem ggX0_tellFifth_X0_fifthBeats : GoodIn wsX0_tellFifth wsX0_fifthBeats := goodIn_r _ [20, 21, 22, 23, 24, 25, 26, 27, 10, 28, 29, 30, 31, 32, 3, 4, 5, 6, 7, 8, 9, 11, 1, 12, 33, 34, 35, 36, 37, 38] (by decide +kernel) (by decide +kernel)
set_option maxRecDepth 20000 in
theorem gX0_tellFifth_X0_fifthBeats : GoodIn wsX0_tellFifth (wsV RX0 74 RX0 yX0_fifthBeats wsX0_fifthBeats) := goodIn_app (goodIn_of _ (by decide +kernel)) ggX0_tellFifth_X0_fifthBeats
theorem dX0_tellFifth_0 : decode cX0_tellFifth 0 = .ok (.iload_n 1, 1) := by decide +kernel
theorem dX0_tellFifth_1 : decode cX0_tellFifth 1 = .ok (.bipush 12, 2) := by decide +kernel
theorem dX0_tellFifth_3 : decode cX0_tellFifth 3 = .ok (.invokestatic 31, 3) := by decide +kernel
theorem dX0_tellFifth_6 : decode cX0_tellFifth 6 = .ok (.istore_n 3, 1) := by decide +kernel
theorem dX0_tellFifth_7 : decode cX0_tellFifth 7 = .ok (.iload_n 2, 1) := by decide +kernel
theorem dX0_tellFifth_8 : decode cX0_tellFifth 8 = .ok (.tableswitch 57 0 3 #[32, 39, 45, 51], 32) := by decide +kernel
theorem dX0_tellFifth_40 : decode cX0_tellFifth 40 = .ok (.aload_n 0, 1) := by decide +kernel
theorem dX0_tellFifth_41 : decode cX0_tellFifth 41 = .ok (.getfield 9, 3) := by decide +kernel
theorem dX0_tellFifth_44 : decode cX0_tellFifth 44 = .ok (.iload_n 3, 1) := by decide +kernel
theorem dX0_tellFifth_45 : decode cX0_tellFifth 45 = .ok (.iaload, 1) := by decide +kernel
theorem dX0_tellFifth_46 : decode cX0_tellFifth 46 = .ok (.ireturn, 1) := by decide +kernel
theorem dX0_tellFifth_47 : decode cX0_tellFifth 47 = .ok (.aload_n 0, 1) := by decide +kernel
theorem dX0_tellFifth_48 : decode cX0_tellFifth 48 = .ok (.iload_n 3, 1) := by decide +kernel
theorem dX0_tellFifth_49 : decode cX0_tellFifth 49 = .ok (.invokevirtual 53, 3) := by decide +kernel
theorem dX0_tellFifth_52 : decode cX0_tellFifth 52 = .ok (.ireturn, 1) := by decide +kernel
theorem dX0_tellFifth_53 : decode cX0_tellFifth 53 = .ok (.aload_n 0, 1) := by decide +kernel
theorem dX0_tellFifth_54 : decode cX0_tellFifth 54 = .ok (.iload_n 3, 1) := by decide +kernel
theorem dX0_tellFifth_55 : decode cX0_tellFifth 55 = .ok (.invokevirtual 68, 3) := by decide +kernel
theorem dX0_tellFifth_58 : decode cX0_tellFifth 58 = .ok (.ireturn, 1) := by decide +kernel
theorem dX0_tellFifth_59 : decode cX0_tellFifth 59 = .ok (.aload_n 0, 1) := by decide +kernel
theorem dX0_tellFifth_60 : decode cX0_tellFifth 60 = .ok (.iload_n 3, 1) := by decide +kernel
theorem dX0_tellFifth_61 : decode cX0_tellFifth 61 = .ok (.invokevirtual 74, 3) := by decide +kernel
theorem dX0_tellFifth_64 : decode cX0_tellFifth 64 = .ok (.ireturn, 1) := by decide +kernel
theorem dX0_tellFifth_65 : decode cX0_tellFifth 65 = .ok (.iload_n 3, 1) := by decide +kernel
theorem dX0_tellFifth_66 : decode cX0_tellFifth 66 = .ok (.aload_n 0, 1) := by decide +kernel
theorem dX0_tellFifth_67 : decode cX0_tellFifth 67 = .ok (.getfield 24, 3) := by decide +kernel
theorem dX0_tellFifth_70 : decode cX0_tellFifth 70 = .ok (.if_icmp .ne 7, 3) := by decide +kernel
theorem dX0_tellFifth_73 : decode cX0_tellFifth 73 = .ok (.iconst 1, 1) := by decide +kernel
theorem dX0_tellFifth_74 : decode cX0_tellFifth 74 = .ok (.goto 4, 3) := by decide +kernel
theorem dX0_tellFifth_77 : decode cX0_tellFifth 77 = .ok (.iconst 0, 1) := by decide +kernel
theorem dX0_tellFifth_78 : decode cX0_tellFifth 78 = .ok (.ireturn, 1) := by decide +kernel
set_option maxRecDepth 20000 in
theorem ggX0_tellMajor_X0_majorOff : GoodIn wsX0_tellMajor wsX0_majorOff := goodIn_r _ [5, 6, 7, 8, 4, 9, 10, 11, 12, 13, 14, 15, 32, 33, 34, 35, 36, 37] (by decide +kernel) (by decide +kernel)
set_option maxRecDepth 20000 in
theorem gX0_tellMajor_X0_majorOff : GoodIn wsX0_tellMajor (wsV RX0 44 RX0 yX0_majorOff wsX0_majorOff) := goodIn_app (goodIn_of _ (by decide +kernel)) ggX0_tellMajor_X0_majorOff
set_option maxRecDepth 20000 in
theorem ggX0_tellMajor_X0_majorBeats : GoodIn wsX0_tellMajor wsX0_majorBeats := goodIn_r _ [19, 20, 21, 22, 23, 24, 25, 26, 4, 27, 28, 29, 30, 31, 12, 13, 14, 15, 1, 2, 3, 5, 6, 7, 8, 9, 10, 11, 32, 33, 34, 35, 36, 37] (by decide +kernel) (by decide +kernel)
set_option maxRecDepth 20000 in
theorem gX0_tellMajor_X0_majorBeats : GoodIn wsX0_tellMajor (wsV RX0 77 RX0 yX0_majorBeats wsX0_majorBeats) := goodIn_app (goodIn_of _ (by decide +kernel)) ggX0_tellMajor_X0_majorBeats
theorem dX0_tellMajor_0 : decode cX0_tellMajor 0 = .ok (.iload_n 2, 1) := by decide +kernel
theorem dX0_tellMajor_1 : decode cX0_tellMajor 1 = .ok (.lookupswitch 43 #[(0, 27), (1, 37)], 27) := by decide +kernel
theorem dX0_tellMajor_28 : decode cX0_tellMajor 28 = .ok (.sipush 386, 3) := by decide +kernel
theorem dX0_tellMajor_31 : decode cX0_tellMajor 31 = .ok (.aload_n 0, 1) := by decide +kernel
theorem dX0_tellMajor_32 : decode cX0_tellMajor 32 = .ok (.iload_n 1, 1) := by decide +kernel
theorem dX0_tellMajor_33 : decode cX0_tellMajor 33 = .ok (.invokevirtual 44, 3) := by decide +kernel
theorem dX0_tellMajor_36 : decode cX0_tellMajor 36 = .ok (.iadd, 1) := by decide +kernel
theorem dX0_tellMajor_37 : decode cX0_tellMajor 37 = .ok (.ireturn, 1) := by decide +kernel
theorem dX0_tellMajor_38 : decode cX0_tellMajor 38 = .ok (.aload_n 0, 1) := by decide +kernel
theorem dX0_tellMajor_39 : decode cX0_tellMajor 39 = .ok (.iload_n 1, 1) := by decide +kernel
theorem dX0_tellMajor_40 : decode cX0_tellMajor 40 = .ok (.invokevirtual 44, 3) := by decide +kernel
theorem dX0_tellMajor_43 : decode cX0_tellMajor 43 = .ok (.ireturn, 1) := by decide +kernel
theorem dX0_tellMajor_44 : decode cX0_tellMajor 44 = .ok (.aload_n 0, 1) := by decide +kernel
theorem dX0_tellMajor_45 : decode cX0_tellMajor 45 = .ok (.iload_n 1, 1) := by decide +kernel
theorem dX0_tellMajor_46 : decode cX0_tellMajor 46 = .ok (.invokevirtual 77, 3) := by decide +kernel
theorem dX0_tellMajor_49 : decode cX0_tellMajor 49 = .ok (.ireturn, 1) := by decide +kernel
set_option maxRecDepth 20000 in
theorem ggX0_tellMinor_X0_minorWidth : GoodIn wsX0_tellMinor wsX0_minorWidth := goodIn_r _ [5, 6, 7, 8, 4, 9, 10, 11, 12, 13, 14, 15, 16, 17, 18, 19, 20, 21] (by decide +kernel) (by decide +kernel)
set_option maxRecDepth 20000 in
theorem gX0_tellMinor_X0_minorWidth : GoodIn wsX0_tellMinor (wsV RX0 80 RX0 yX0_minorWidth wsX0_minorWidth) := goodIn_app (goodIn_of _ (by decide +kernel)) ggX0_tellMinor_X0_minorWidth
theorem dX0_tellMinor_0 : decode cX0_tellMinor 0 = .ok (.aload_n 0, 1) := by decide +kernel
theorem dX0_tellMinor_1 : decode cX0_tellMinor 1 = .ok (.iload_n 1, 1) := by decide +kernel
theorem dX0_tellMinor_2 : decode cX0_tellMinor 2 = .ok (.invokevirtual 80, 3) := by decide +kernel
theorem dX0_tellMinor_5 : decode cX0_tellMinor 5 = .ok (.istore_n 3, 1) := by decide +kernel
theorem dX0_tellMinor_6 : decode cX0_tellMinor 6 = .ok (.iload_n 2, 1) := by decide +kernel
theorem dX0_tellMinor_7 : decode cX0_tellMinor 7 = .ok (.ifCond .ne 7, 3) := by decide +kernel
theorem dX0_tellMinor_10 : decode cX0_tellMinor 10 = .ok (.iload_n 3, 1) := by decide +kernel
theorem dX0_tellMinor_11 : decode cX0_tellMinor 11 = .ok (.goto 8, 3) := by decide +kernel
theorem dX0_tellMinor_14 : decode cX0_tellMinor 14 = .ok (.iload_n 3, 1) := by decide +kernel
theorem dX0_tellMinor_15 : decode cX0_tellMinor 15 = .ok (.sipush 316, 3) := by decide +kernel
theorem dX0_tellMinor_18 : decode cX0_tellMinor 18 = .ok (.isub, 1) := by decide +kernel
theorem dX0_tellMinor_19 : decode cX0_tellMinor 19 = .ok (.ireturn, 1) := by decide +kernel
set_option maxRecDepth 20000 in
theorem ggX0_tellNote_J9_floorMod_7cf53 : GoodIn wsX0_tellNote wsJ9_floorMod_7cf53 := goodIn_r _ [6] (by decide +kernel) (by decide +kernel)
set_option maxRecDepth 20000 in
theorem gX0_tellNote_J9_floorMod_7cf53 : GoodIn wsX0_tellNote (va_wsS RX0 31 yJ9_floorMod_7cf53 wsJ9_floorMod_7cf53) := goodIn_app (goodIn_of _ (by decide +kernel)) ggX0_tellNote_J9_floorMod_7cf53
set_option maxRecDepth 20000 in
theorem ggX0_tellNote_X0_keyboardNumber : GoodIn wsX0_tellNote wsX0_keyboardNumber := goodIn_r _ [11, 3, 4, 5, 6] (by decide +kernel) (by decide +kernel)
set_option maxRecDepth 20000 in
theorem gX0_tellNote_X0_keyboardNumber : GoodIn wsX0_tellNote (wsV RX0 65 RX0 yX0_keyboardNumber wsX0_keyboardNumber) := goodIn_app (goodIn_of _ (by decide +kernel)) ggX0_tellNote_X0_keyboardNumber
set_option maxRecDepth 20000 in
theorem ggX0_tellNote_X0_swings : GoodIn wsX0_tellNote wsX0_swings := goodIn_r _ [15, 7, 8, 9, 10, 11, 3, 4, 5, 6] (by decide +kernel) (by decide +kernel)
set_option maxRecDepth 20000 in
theorem gX0_tellNote_X0_swings : GoodIn wsX0_tellNote (wsV RX0 56 RX0 yX0_swings wsX0_swings) := goodIn_app (goodIn_of _ (by decide +kernel)) ggX0_tellNote_X0_swings
set_option maxRecDepth 20000 in
theorem ggX0_tellNote_X0_height : GoodIn wsX0_tellNote wsX0_height := goodIn_r _ [19, 20, 21, 22, 10, 23, 24, 25, 26, 27, 28, 1, 3, 4, 5, 6, 29, 30, 31, 32, 33, 34] (by decide +kernel) (by decide +kernel)
set_option maxRecDepth 20000 in
theorem gX0_tellNote_X0_height : GoodIn wsX0_tellNote (wsV RX0 83 RX0 yX0_height wsX0_height) := goodIn_app (goodIn_of _ (by decide +kernel)) ggX0_tellNote_X0_height
theorem dX0_tellNote_0 : decode cX0_tellNote 0 = .ok (.iload_n 1, 1) := by decide +kernel
theorem dX0_tellNote_1 : decode cX0_tellNote 1 = .ok (.bipush 12, 2) := by decide +kernel
theorem dX0_tellNote_3 : decode cX0_tellNote 3 = .ok (.invokestatic 31, 3) := by decide +kernel
theorem dX0_tellNote_6 : decode cX0_tellNote 6 = .ok (.istore_n 3, 1) := by decide +kernel
theorem dX0_tellNote_7 : decode cX0_tellNote 7 = .ok (.iload_n 2, 1) := by decide +kernel
theorem dX0_tellNote_8 : decode cX0_tellNote 8 = .ok (.tableswitch 58 0 3 #[32, 39, 46, 52], 32) := by decide +kernel
theorem dX0_tellNote_40 : decode cX0_tellNote 40 = .ok (.aload_n 0, 1) := by decide +kernel
theorem dX0_tellNote_41 : decode cX0_tellNote 41 = .ok (.getfield 15, 3) := by decide +kernel
theorem dX0_tellNote_44 : decode cX0_tellNote 44 = .ok (.iload_n 3, 1) := by decide +kernel
theorem dX0_tellNote_45 : decode cX0_tellNote 45 = .ok (.iaload, 1) := by decide +kernel
theorem dX0_tellNote_46 : decode cX0_tellNote 46 = .ok (.ireturn, 1) := by decide +kernel
theorem dX0_tellNote_47 : decode cX0_tellNote 47 = .ok (.aload_n 0, 1) := by decide +kernel
theorem dX0_tellNote_48 : decode cX0_tellNote 48 = .ok (.getfield 18, 3) := by decide +kernel
theorem dX0_tellNote_51 : decode cX0_tellNote 51 = .ok (.iload_n 3, 1) := by decide +kernel
theorem dX0_tellNote_52 : decode cX0_tellNote 52 = .ok (.iaload, 1) := by decide +kernel
theorem dX0_tellNote_53 : decode cX0_tellNote 53 = .ok (.ireturn, 1) := by decide +kernel
theorem dX0_tellNote_54 : decode cX0_tellNote 54 = .ok (.aload_n 0, 1) := by decide +kernel
theorem dX0_tellNote_55 : decode cX0_tellNote 55 = .ok (.iload_n 3, 1) := by decide +kernel
theorem dX0_tellNote_56 : decode cX0_tellNote 56 = .ok (.invokevirtual 65, 3) := by decide +kernel
theorem dX0_tellNote_59 : decode cX0_tellNote 59 = .ok (.ireturn, 1) := by decide +kernel
theorem dX0_tellNote_60 : decode cX0_tellNote 60 = .ok (.aload_n 0, 1) := by decide +kernel
theorem dX0_tellNote_61 : decode cX0_tellNote 61 = .ok (.iload_n 3, 1) := by decide +kernel
theorem dX0_tellNote_62 : decode cX0_tellNote 62 = .ok (.invokevirtual 56, 3) := by decide +kernel
theorem dX0_tellNote_65 : decode cX0_tellNote 65 = .ok (.ireturn, 1) := by decide +kernel
theorem dX0_tellNote_66 : decode cX0_tellNote 66 = .ok (.aload_n 0, 1) := by decide +kernel
theorem dX0_tellNote_67 : decode cX0_tellNote 67 = .ok (.iload_n 3, 1) := by decide +kernel
theorem dX0_tellNote_68 : decode cX0_tellNote 68 = .ok (.invokevirtual 83, 3) := by decide +kernel
theorem dX0_tellNote_71 : decode cX0_tellNote 71 = .ok (.ireturn, 1) := by decide +kernel
set_option maxRecDepth 20000 in
theorem ggX0_tellKey_J9_floorMod_7cf53 : GoodIn wsX0_tellKey wsJ9_floorMod_7cf53 := goodIn_r _ [5] (by decide +kernel) (by decide +kernel)
set_option maxRecDepth 20000 in
theorem gX0_tellKey_J9_floorMod_7cf53 : GoodIn wsX0_tellKey (va_wsS RX0 31 yJ9_floorMod_7cf53 wsJ9_floorMod_7cf53) := goodIn_app (goodIn_of _ (by decide +kernel)) ggX0_tellKey_J9_floorMod_7cf53
set_option maxRecDepth 20000 in
theorem ggX0_tellKey_X0_sourness : GoodIn wsX0_tellKey wsX0_sourness := goodIn_r _ [10, 11, 12, 13, 14, 15, 16, 17, 9, 18, 19, 20, 21, 22, 23, 24, 2, 3, 4, 5, 29, 30, 31, 32, 33, 34] (by decide +kernel) (by decide +kernel)
set_option maxRecDepth 20000 in
theorem gX0_tellKey_X0_sourness : GoodIn wsX0_tellKey (wsV RX0 71 RX0 yX0_sourness wsX0_sourness) := goodIn_app (goodIn_of _ (by decide +kernel)) ggX0_tellKey_X0_sourness
set_option maxRecDepth 20000 in
theorem ggX0_tellKey_X0_place : GoodIn wsX0_tellKey wsX0_place := goodIn_r _ [28, 6, 7, 8, 9, 10, 11, 12, 13, 14, 15, 16, 17, 18, 19, 20, 21, 22, 23, 24, 2, 3, 4, 5, 29, 30, 31, 32, 33, 34] (by decide +kernel) (by decide +kernel)
set_option maxRecDepth 20000 in
theorem gX0_tellKey_X0_place : GoodIn wsX0_tellKey (wsV RX0 86 RX0 yX0_place wsX0_place) := goodIn_app (goodIn_of _ (by decide +kernel)) ggX0_tellKey_X0_place
theorem dX0_tellKey_0 : decode cX0_tellKey 0 = .ok (.iload_n 1, 1) := by decide +kernel
theorem dX0_tellKey_1 : decode cX0_tellKey 1 = .ok (.bipush 12, 2) := by decide +kernel
theorem dX0_tellKey_3 : decode cX0_tellKey 3 = .ok (.invokestatic 31, 3) := by decide +kernel
theorem dX0_tellKey_6 : decode cX0_tellKey 6 = .ok (.istore_n 3, 1) := by decide +kernel
theorem dX0_tellKey_7 : decode cX0_tellKey 7 = .ok (.iload_n 2, 1) := by decide +kernel
theorem dX0_tellKey_8 : decode cX0_tellKey 8 = .ok (.tableswitch 54 0 2 #[28, 35, 41], 28) := by decide +kernel
theorem dX0_tellKey_36 : decode cX0_tellKey 36 = .ok (.aload_n 0, 1) := by decide +kernel
theorem dX0_tellKey_37 : decode cX0_tellKey 37 = .ok (.getfield 21, 3) := by decide +kernel
theorem dX0_tellKey_40 : decode cX0_tellKey 40 = .ok (.iload_n 3, 1) := by decide +kernel
theorem dX0_tellKey_41 : decode cX0_tellKey 41 = .ok (.iaload, 1) := by decide +kernel
theorem dX0_tellKey_42 : decode cX0_tellKey 42 = .ok (.ireturn, 1) := by decide +kernel
theorem dX0_tellKey_43 : decode cX0_tellKey 43 = .ok (.aload_n 0, 1) := by decide +kernel
theorem dX0_tellKey_44 : decode cX0_tellKey 44 = .ok (.iload_n 3, 1) := by decide +kernel
theorem dX0_tellKey_45 : decode cX0_tellKey 45 = .ok (.invokevirtual 71, 3) := by decide +kernel
theorem dX0_tellKey_48 : decode cX0_tellKey 48 = .ok (.ireturn, 1) := by decide +kernel
theorem dX0_tellKey_49 : decode cX0_tellKey 49 = .ok (.aload_n 0, 1) := by decide +kernel
theorem dX0_tellKey_50 : decode cX0_tellKey 50 = .ok (.iload_n 3, 1) := by decide +kernel
theorem dX0_tellKey_51 : decode cX0_tellKey 51 = .ok (.invokevirtual 71, 3) := by decide +kernel
theorem dX0_tellKey_54 : decode cX0_tellKey 54 = .ok (.aload_n 0, 1) := by decide +kernel
theorem dX0_tellKey_55 : decode cX0_tellKey 55 = .ok (.getfield 21, 3) := by decide +kernel
theorem dX0_tellKey_58 : decode cX0_tellKey 58 = .ok (.iload_n 3, 1) := by decide +kernel
theorem dX0_tellKey_59 : decode cX0_tellKey 59 = .ok (.iaload, 1) := by decide +kernel
theorem dX0_tellKey_60 : decode cX0_tellKey 60 = .ok (.imul, 1) := by decide +kernel
theorem dX0_tellKey_61 : decode cX0_tellKey 61 = .ok (.ireturn, 1) := by decide +kernel
theorem dX0_tellKey_62 : decode cX0_tellKey 62 = .ok (.aload_n 0, 1) := by decide +kernel
theorem dX0_tellKey_63 : decode cX0_tellKey 63 = .ok (.iload_n 3, 1) := by decide +kernel
theorem dX0_tellKey_64 : decode cX0_tellKey 64 = .ok (.invokevirtual 86, 3) := by decide +kernel
theorem dX0_tellKey_67 : decode cX0_tellKey 67 = .ok (.ireturn, 1) := by decide +kernel
set_option maxRecDepth 20000 in
theorem ggX0_tellCount_X0_cost : GoodIn wsX0_tellCount wsX0_cost := goodIn_r _ [7, 8, 9, 10, 11, 6, 12, 13, 14, 15, 16, 17, 18, 19, 20, 21, 22, 23, 24, 25, 26, 27, 28, 29, 30, 62, 63, 64, 65, 66, 67] (by decide +kernel) (by decide +kernel)
set_option maxRecDepth 20000 in
theorem gX0_tellCount_X0_cost : GoodIn wsX0_tellCount (wsV RX0 89 RX0 yX0_cost wsX0_cost) := goodIn_app (goodIn_of _ (by decide +kernel)) ggX0_tellCount_X0_cost
set_option maxRecDepth 20000 in
theorem ggX0_tellCount_X0_mostMajorOff : GoodIn wsX0_tellCount wsX0_mostMajorOff := goodIn_r _ [34, 13, 14, 15, 16, 35, 36, 37, 17, 18, 19, 6, 20, 21, 22, 23, 24, 25, 26, 27, 28, 29, 30, 62, 63, 64, 65, 66, 67] (by decide +kernel) (by decide +kernel)
set_option maxRecDepth 20000 in
theorem gX0_tellCount_X0_mostMajorOff : GoodIn wsX0_tellCount (wsV RX0 93 RX0 yX0_mostMajorOff wsX0_mostMajorOff) := goodIn_app (goodIn_of _ (by decide +kernel)) ggX0_tellCount_X0_mostMajorOff
set_option maxRecDepth 20000 in
theorem ggX0_tellCount_X0_pureFifths : GoodIn wsX0_tellCount wsX0_pureFifths := goodIn_r _ [41, 21, 22, 23, 6, 24, 25, 26, 27, 28, 29, 30, 62, 63, 64, 65, 66, 67] (by decide +kernel) (by decide +kernel)
set_option maxRecDepth 20000 in
theorem gX0_tellCount_X0_pureFifths : GoodIn wsX0_tellCount (wsV RX0 96 RX0 yX0_pureFifths wsX0_pureFifths) := goodIn_app (goodIn_of _ (by decide +kernel)) ggX0_tellCount_X0_pureFifths
set_option maxRecDepth 20000 in
theorem ggX0_tellCount_X0_allOff : GoodIn wsX0_tellCount wsX0_allOff := goodIn_r _ [45, 26, 13, 14, 15, 16, 62, 63, 64, 65, 66, 67] (by decide +kernel) (by decide +kernel)
set_option maxRecDepth 20000 in
theorem gX0_tellCount_X0_allOff : GoodIn wsX0_tellCount (wsV RX0 99 RX0 yX0_allOff wsX0_allOff) := goodIn_app (goodIn_of _ (by decide +kernel)) ggX0_tellCount_X0_allOff
set_option maxRecDepth 20000 in
theorem ggX0_tellCount_X0_fastestBeats : GoodIn wsX0_tellCount wsX0_fastestBeats := goodIn_r _ [49, 2, 35, 36, 15, 37, 50, 51, 52, 6, 53, 13, 14, 16, 54, 55, 56, 57, 58, 59, 60, 61, 27, 28, 29, 30, 21, 22, 23, 24, 25, 26, 62, 63, 64, 65, 66, 67] (by decide +kernel) (by decide +kernel)
set_option maxRecDepth 20000 in
theorem gX0_tellCount_X0_fastestBeats : GoodIn wsX0_tellCount (wsV RX0 102 RX0 yX0_fastestBeats wsX0_fastestBeats) := goodIn_app (goodIn_of _ (by decide +kernel)) ggX0_tellCount_X0_fastestBeats
theorem dX0_tellCount_0 : decode cX0_tellCount 0 = .ok (.iload_n 1, 1) := by decide +kernel
theorem dX0_tellCount_1 : decode cX0_tellCount 1 = .ok (.tableswitch 69 0 5 #[39, 44, 49, 54, 59, 64], 39) := by decide +kernel
theorem dX0_tellCount_40 : decode cX0_tellCount 40 = .ok (.aload_n 0, 1) := by decide +kernel
theorem dX0_tellCount_41 : decode cX0_tellCount 41 = .ok (.getfield 28, 3) := by decide +kernel
theorem dX0_tellCount_44 : decode cX0_tellCount 44 = .ok (.ireturn, 1) := by decide +kernel
theorem dX0_tellCount_45 : decode cX0_tellCount 45 = .ok (.aload_n 0, 1) := by decide +kernel
theorem dX0_tellCount_46 : decode cX0_tellCount 46 = .ok (.getfield 24, 3) := by decide +kernel
theorem dX0_tellCount_49 : decode cX0_tellCount 49 = .ok (.ireturn, 1) := by decide +kernel
theorem dX0_tellCount_50 : decode cX0_tellCount 50 = .ok (.aload_n 0, 1) := by decide +kernel
theorem dX0_tellCount_51 : decode cX0_tellCount 51 = .ok (.invokevirtual 89, 3) := by decide +kernel
theorem dX0_tellCount_54 : decode cX0_tellCount 54 = .ok (.ireturn, 1) := by decide +kernel
theorem dX0_tellCount_55 : decode cX0_tellCount 55 = .ok (.aload_n 0, 1) := by decide +kernel
theorem dX0_tellCount_56 : decode cX0_tellCount 56 = .ok (.invokevirtual 93, 3) := by decide +kernel
theorem dX0_tellCount_59 : decode cX0_tellCount 59 = .ok (.ireturn, 1) := by decide +kernel
theorem dX0_tellCount_60 : decode cX0_tellCount 60 = .ok (.aload_n 0, 1) := by decide +kernel
theorem dX0_tellCount_61 : decode cX0_tellCount 61 = .ok (.invokevirtual 96, 3) := by decide +kernel
theorem dX0_tellCount_64 : decode cX0_tellCount 64 = .ok (.ireturn, 1) := by decide +kernel
theorem dX0_tellCount_65 : decode cX0_tellCount 65 = .ok (.aload_n 0, 1) := by decide +kernel
theorem dX0_tellCount_66 : decode cX0_tellCount 66 = .ok (.invokevirtual 99, 3) := by decide +kernel
theorem dX0_tellCount_69 : decode cX0_tellCount 69 = .ok (.ireturn, 1) := by decide +kernel
theorem dX0_tellCount_70 : decode cX0_tellCount 70 = .ok (.aload_n 0, 1) := by decide +kernel
theorem dX0_tellCount_71 : decode cX0_tellCount 71 = .ok (.invokevirtual 102, 3) := by decide +kernel
theorem dX0_tellCount_74 : decode cX0_tellCount 74 = .ok (.ireturn, 1) := by decide +kernel
