set_option maxRecDepth 20000 in
theorem ggX1_init_X0_init : GoodIn wsX1_init wsX0_init := goodIn_r _ [11, 12, 2, 3, 13, 14, 15, 16, 17, 18, 19, 20, 21, 22, 23, 24, 25] (by decide +kernel) (by decide +kernel)
set_option maxRecDepth 20000 in
theorem gX1_init_X0_init : GoodIn wsX1_init (wsX0_init) := ggX1_init_X0_init
theorem dX1_init_0 : decode cX1_init 0 = .ok (.aload_n 0, 1) := by decide +kernel
theorem dX1_init_1 : decode cX1_init 1 = .ok (.invokespecial 1, 3) := by decide +kernel
theorem dX1_init_4 : decode cX1_init 4 = .ok (.aload_n 0, 1) := by decide +kernel
theorem dX1_init_5 : decode cX1_init 5 = .ok (.new 7, 3) := by decide +kernel
theorem dX1_init_8 : decode cX1_init 8 = .ok (.dup, 1) := by decide +kernel
theorem dX1_init_9 : decode cX1_init 9 = .ok (.invokespecial 9, 3) := by decide +kernel
theorem dX1_init_12 : decode cX1_init 12 = .ok (.putfield 10, 3) := by decide +kernel
theorem dX1_init_15 : decode cX1_init 15 = .ok (.aload_n 0, 1) := by decide +kernel
theorem dX1_init_16 : decode cX1_init 16 = .ok (.new 7, 3) := by decide +kernel
theorem dX1_init_19 : decode cX1_init 19 = .ok (.dup, 1) := by decide +kernel
theorem dX1_init_20 : decode cX1_init 20 = .ok (.invokespecial 9, 3) := by decide +kernel
theorem dX1_init_23 : decode cX1_init 23 = .ok (.putfield 16, 3) := by decide +kernel
theorem dX1_init_26 : decode cX1_init 26 = .ok (.return_, 1) := by decide +kernel
set_option maxRecDepth 20000 in
theorem ggX1_setFifth_X1_checkRing : GoodIn wsX1_setFifth wsX1_checkRing := goodIn_ca (goodIn_r _ [6, 7, 8] (by decide +kernel) (by decide +kernel)) (goodIn_sub (fun _ h => List.mem_cons_of_mem _ (List.mem_append_left _ (List.mem_append_left _ (List.mem_append_right _ h)))) (by decide +kernel))
set_option maxRecDepth 20000 in
theorem gX1_setFifth_X1_checkRing : GoodIn wsX1_setFifth (va_wsS RX1 19 yX1_checkRing wsX1_checkRing) := goodIn_app (goodIn_of _ (by decide +kernel)) ggX1_setFifth_X1_checkRing
set_option maxRecDepth 20000 in
theorem ggX1_setFifth_X1_checkArgument : GoodIn wsX1_setFifth wsX1_checkArgument := goodIn_ca (goodIn_r _ [11, 12, 13] (by decide +kernel) (by decide +kernel)) (goodIn_sub (fun _ h => List.mem_cons_of_mem _ (List.mem_append_left _ (List.mem_append_right _ h))) (by decide +kernel))
set_option maxRecDepth 20000 in
theorem gX1_setFifth_X1_checkArgument : GoodIn wsX1_setFifth (va_wsS RX1 23 yX1_checkArgument wsX1_checkArgument) := goodIn_app (goodIn_of _ (by decide +kernel)) ggX1_setFifth_X1_checkArgument
set_option maxRecDepth 20000 in
theorem ggX1_setFifth_X1_checkNotWolf : GoodIn wsX1_setFifth wsX1_checkNotWolf := goodIn_ca (goodIn_r _ [17, 18, 19, 1, 20, 36, 37, 38, 39, 40, 41, 42, 43] (by decide +kernel) (by decide +kernel)) (goodIn_sub (fun _ h => List.mem_cons_of_mem _ (List.mem_append_right _ h)) (by decide +kernel))
set_option maxRecDepth 20000 in
theorem gX1_setFifth_X1_checkNotWolf : GoodIn wsX1_setFifth (wsV RX1 27 RX1 yX1_checkNotWolf wsX1_checkNotWolf) := goodIn_app (goodIn_of _ (by decide +kernel)) ggX1_setFifth_X1_checkNotWolf
set_option maxRecDepth 20000 in
theorem ggX1_setFifth_X0_plan : GoodIn wsX1_setFifth wsX0_plan := goodIn_r _ [25, 26, 27, 28, 29, 30, 31, 32, 33, 24, 34, 35, 38, 39, 40, 41, 42, 43] (by decide +kernel) (by decide +kernel)
set_option maxRecDepth 20000 in
theorem gX1_setFifth_X0_plan : GoodIn wsX1_setFifth (wsV RX1 34 RX0 yX0_plan wsX0_plan) := goodIn_app (goodIn_of _ (by decide +kernel)) ggX1_setFifth_X0_plan
theorem dX1_setFifth_0 : decode cX1_setFifth 0 = .ok (.iload_n 1, 1) := by decide +kernel
theorem dX1_setFifth_1 : decode cX1_setFifth 1 = .ok (.invokestatic 19, 3) := by decide +kernel
theorem dX1_setFifth_4 : decode cX1_setFifth 4 = .ok (.iload_n 2, 1) := by decide +kernel
theorem dX1_setFifth_5 : decode cX1_setFifth 5 = .ok (.bipush (-10), 2) := by decide +kernel
theorem dX1_setFifth_7 : decode cX1_setFifth 7 = .ok (.bipush 20, 2) := by decide +kernel
theorem dX1_setFifth_9 : decode cX1_setFifth 9 = .ok (.invokestatic 23, 3) := by decide +kernel
theorem dX1_setFifth_12 : decode cX1_setFifth 12 = .ok (.aload_n 0, 1) := by decide +kernel
theorem dX1_setFifth_13 : decode cX1_setFifth 13 = .ok (.iload_n 1, 1) := by decide +kernel
theorem dX1_setFifth_14 : decode cX1_setFifth 14 = .ok (.invokevirtual 27, 3) := by decide +kernel
theorem dX1_setFifth_17 : decode cX1_setFifth 17 = .ok (.aload_n 0, 1) := by decide +kernel
theorem dX1_setFifth_18 : decode cX1_setFifth 18 = .ok (.getfield 10, 3) := by decide +kernel
theorem dX1_setFifth_21 : decode cX1_setFifth 21 = .ok (.getfield 30, 3) := by decide +kernel
theorem dX1_setFifth_24 : decode cX1_setFifth 24 = .ok (.iload_n 1, 1) := by decide +kernel
theorem dX1_setFifth_25 : decode cX1_setFifth 25 = .ok (.iaload, 1) := by decide +kernel
theorem dX1_setFifth_26 : decode cX1_setFifth 26 = .ok (.istore_n 3, 1) := by decide +kernel
theorem dX1_setFifth_27 : decode cX1_setFifth 27 = .ok (.aload_n 0, 1) := by decide +kernel
theorem dX1_setFifth_28 : decode cX1_setFifth 28 = .ok (.getfield 10, 3) := by decide +kernel
theorem dX1_setFifth_31 : decode cX1_setFifth 31 = .ok (.iload_n 1, 1) := by decide +kernel
theorem dX1_setFifth_32 : decode cX1_setFifth 32 = .ok (.iload_n 2, 1) := by decide +kernel
theorem dX1_setFifth_33 : decode cX1_setFifth 33 = .ok (.invokevirtual 34, 3) := by decide +kernel
theorem dX1_setFifth_36 : decode cX1_setFifth 36 = .ok (.iload_n 3, 1) := by decide +kernel
theorem dX1_setFifth_37 : decode cX1_setFifth 37 = .ok (.ireturn, 1) := by decide +kernel
set_option maxRecDepth 20000 in
theorem ggX1_shift_X1_checkRing : GoodIn wsX1_shift wsX1_checkRing := goodIn_ca (goodIn_r _ [6, 7, 8] (by decide +kernel) (by decide +kernel)) (goodIn_sub (fun _ h => List.mem_cons_of_mem _ (List.mem_append_right _ h)) (by decide +kernel))
set_option maxRecDepth 20000 in
theorem gX1_shift_X1_checkRing : GoodIn wsX1_shift (va_wsS RX1 19 yX1_checkRing wsX1_checkRing) := goodIn_app (goodIn_of _ (by decide +kernel)) ggX1_shift_X1_checkRing
set_option maxRecDepth 20000 in
theorem ggX1_shift_X0_moveWolf : GoodIn wsX1_shift wsX0_moveWolf := goodIn_r _ [13, 14, 15, 16, 17, 18, 19, 22, 23, 24, 25, 26, 27] (by decide +kernel) (by decide +kernel)
set_option maxRecDepth 20000 in
theorem gX1_shift_X0_moveWolf : GoodIn wsX1_shift (wsV RX1 42 RX0 yX0_moveWolf wsX0_moveWolf) := goodIn_app (goodIn_of _ (by decide +kernel)) ggX1_shift_X0_moveWolf
theorem dX1_shift_0 : decode cX1_shift 0 = .ok (.iload_n 1, 1) := by decide +kernel
theorem dX1_shift_1 : decode cX1_shift 1 = .ok (.invokestatic 19, 3) := by decide +kernel
theorem dX1_shift_4 : decode cX1_shift 4 = .ok (.aload_n 0, 1) := by decide +kernel
theorem dX1_shift_5 : decode cX1_shift 5 = .ok (.getfield 10, 3) := by decide +kernel
theorem dX1_shift_8 : decode cX1_shift 8 = .ok (.getfield 38, 3) := by decide +kernel
theorem dX1_shift_11 : decode cX1_shift 11 = .ok (.istore_n 2, 1) := by decide +kernel
theorem dX1_shift_12 : decode cX1_shift 12 = .ok (.aload_n 0, 1) := by decide +kernel
theorem dX1_shift_13 : decode cX1_shift 13 = .ok (.getfield 10, 3) := by decide +kernel
theorem dX1_shift_16 : decode cX1_shift 16 = .ok (.iload_n 1, 1) := by decide +kernel
theorem dX1_shift_17 : decode cX1_shift 17 = .ok (.invokevirtual 42, 3) := by decide +kernel
theorem dX1_shift_20 : decode cX1_shift 20 = .ok (.iload_n 2, 1) := by decide +kernel
theorem dX1_shift_21 : decode cX1_shift 21 = .ok (.ireturn, 1) := by decide +kernel
set_option maxRecDepth 20000 in
theorem ggX1_spread_X1_checkArgument : GoodIn wsX1_spread wsX1_checkArgument := goodIn_ca (goodIn_r _ [5, 6, 7] (by decide +kernel) (by decide +kernel)) (goodIn_sub (fun _ h => List.mem_cons_of_mem _ (List.mem_append_right _ h)) (by decide +kernel))
set_option maxRecDepth 20000 in
theorem gX1_spread_X1_checkArgument : GoodIn wsX1_spread (va_wsS RX1 23 yX1_checkArgument wsX1_checkArgument) := goodIn_app (goodIn_of _ (by decide +kernel)) ggX1_spread_X1_checkArgument
set_option maxRecDepth 20000 in
theorem ggX1_spread_X0_wolfNarrow : GoodIn wsX1_spread wsX0_wolfNarrow := goodIn_r _ [12, 13, 14, 15, 16, 17, 18, 29, 30, 31, 32, 33, 34] (by decide +kernel) (by decide +kernel)
set_option maxRecDepth 20000 in
theorem gX1_spread_X0_wolfNarrow : GoodIn wsX1_spread (wsV RX1 45 RX0 yX0_wolfNarrow wsX0_wolfNarrow) := goodIn_app (goodIn_of _ (by decide +kernel)) ggX1_spread_X0_wolfNarrow
set_option maxRecDepth 20000 in
theorem ggX1_spread_X0_spreadComma : GoodIn wsX1_spread wsX0_spreadComma := goodIn_r _ [22, 13, 14, 15, 16, 17, 18, 23, 24, 25, 11, 26, 29, 30, 31, 32, 33, 34] (by decide +kernel) (by decide +kernel)
set_option maxRecDepth 20000 in
theorem gX1_spread_X0_spreadComma : GoodIn wsX1_spread (wsV RX1 49 RX0 yX0_spreadComma wsX0_spreadComma) := goodIn_app (goodIn_of _ (by decide +kernel)) ggX1_spread_X0_spreadComma
theorem dX1_spread_0 : decode cX1_spread 0 = .ok (.iload_n 1, 1) := by decide +kernel
theorem dX1_spread_1 : decode cX1_spread 1 = .ok (.iconst 2, 1) := by decide +kernel
theorem dX1_spread_2 : decode cX1_spread 2 = .ok (.bipush 11, 2) := by decide +kernel
theorem dX1_spread_4 : decode cX1_spread 4 = .ok (.invokestatic 23, 3) := by decide +kernel
theorem dX1_spread_7 : decode cX1_spread 7 = .ok (.aload_n 0, 1) := by decide +kernel
theorem dX1_spread_8 : decode cX1_spread 8 = .ok (.getfield 10, 3) := by decide +kernel
theorem dX1_spread_11 : decode cX1_spread 11 = .ok (.invokevirtual 45, 3) := by decide +kernel
theorem dX1_spread_14 : decode cX1_spread 14 = .ok (.istore_n 2, 1) := by decide +kernel
theorem dX1_spread_15 : decode cX1_spread 15 = .ok (.aload_n 0, 1) := by decide +kernel
theorem dX1_spread_16 : decode cX1_spread 16 = .ok (.getfield 10, 3) := by decide +kernel
theorem dX1_spread_19 : decode cX1_spread 19 = .ok (.iload_n 1, 1) := by decide +kernel
theorem dX1_spread_20 : decode cX1_spread 20 = .ok (.invokevirtual 49, 3) := by decide +kernel
theorem dX1_spread_23 : decode cX1_spread 23 = .ok (.iload_n 2, 1) := by decide +kernel
theorem dX1_spread_24 : decode cX1_spread 24 = .ok (.ireturn, 1) := by decide +kernel
set_option maxRecDepth 20000 in
theorem ggX1_setOften_X1_checkRing : GoodIn wsX1_setOften wsX1_checkRing := goodIn_ca (goodIn_r _ [6, 7, 8] (by decide +kernel) (by decide +kernel)) (goodIn_sub (fun _ h => List.mem_cons_of_mem _ (List.mem_append_left _ (List.mem_append_right _ h))) (by decide +kernel))
set_option maxRecDepth 20000 in
theorem gX1_setOften_X1_checkRing : GoodIn wsX1_setOften (va_wsS RX1 19 yX1_checkRing wsX1_checkRing) := goodIn_app (goodIn_of _ (by decide +kernel)) ggX1_setOften_X1_checkRing
set_option maxRecDepth 20000 in
theorem ggX1_setOften_X1_checkArgument : GoodIn wsX1_setOften wsX1_checkArgument := goodIn_ca (goodIn_r _ [11, 12, 13] (by decide +kernel) (by decide +kernel)) (goodIn_sub (fun _ h => List.mem_cons_of_mem _ (List.mem_append_right _ h)) (by decide +kernel))
set_option maxRecDepth 20000 in
theorem gX1_setOften_X1_checkArgument : GoodIn wsX1_setOften (va_wsS RX1 23 yX1_checkArgument wsX1_checkArgument) := goodIn_app (goodIn_of _ (by decide +kernel)) ggX1_setOften_X1_checkArgument
theorem dX1_setOften_0 : decode cX1_setOften 0 = .ok (.iload_n 1, 1) := by decide +kernel
theorem dX1_setOften_1 : decode cX1_setOften 1 = .ok (.invokestatic 19, 3) := by decide +kernel
theorem dX1_setOften_4 : decode cX1_setOften 4 = .ok (.iload_n 2, 1) := by decide +kernel
theorem dX1_setOften_5 : decode cX1_setOften 5 = .ok (.iconst 0, 1) := by decide +kernel
theorem dX1_setOften_6 : decode cX1_setOften 6 = .ok (.bipush 9, 2) := by decide +kernel
theorem dX1_setOften_8 : decode cX1_setOften 8 = .ok (.invokestatic 23, 3) := by decide +kernel
theorem dX1_setOften_11 : decode cX1_setOften 11 = .ok (.aload_n 0, 1) := by decide +kernel
theorem dX1_setOften_12 : decode cX1_setOften 12 = .ok (.getfield 10, 3) := by decide +kernel
theorem dX1_setOften_15 : decode cX1_setOften 15 = .ok (.getfield 52, 3) := by decide +kernel
theorem dX1_setOften_18 : decode cX1_setOften 18 = .ok (.iload_n 1, 1) := by decide +kernel
theorem dX1_setOften_19 : decode cX1_setOften 19 = .ok (.iaload, 1) := by decide +kernel
theorem dX1_setOften_20 : decode cX1_setOften 20 = .ok (.istore_n 3, 1) := by decide +kernel
theorem dX1_setOften_21 : decode cX1_setOften 21 = .ok (.aload_n 0, 1) := by decide +kernel
theorem dX1_setOften_22 : decode cX1_setOften 22 = .ok (.getfield 10, 3) := by decide +kernel
theorem dX1_setOften_25 : decode cX1_setOften 25 = .ok (.getfield 52, 3) := by decide +kernel
theorem dX1_setOften_28 : decode cX1_setOften 28 = .ok (.iload_n 1, 1) := by decide +kernel
theorem dX1_setOften_29 : decode cX1_setOften 29 = .ok (.iload_n 2, 1) := by decide +kernel
theorem dX1_setOften_30 : decode cX1_setOften 30 = .ok (.iastore, 1) := by decide +kernel
theorem dX1_setOften_31 : decode cX1_setOften 31 = .ok (.iload_n 3, 1) := by decide +kernel
theorem dX1_setOften_32 : decode cX1_setOften 32 = .ok (.ireturn, 1) := by decide +kernel
set_option maxRecDepth 20000 in
theorem ggX1_setDrift_X1_checkRing : GoodIn wsX1_setDrift wsX1_checkRing := goodIn_ca (goodIn_r _ [6, 7, 8] (by decide +kernel) (by decide +kernel)) (goodIn_sub (fun _ h => List.mem_cons_of_mem _ (List.mem_append_left _ (List.mem_append_right _ h))) (by decide +kernel))
set_option maxRecDepth 20000 in
theorem gX1_setDrift_X1_checkRing : GoodIn wsX1_setDrift (va_wsS RX1 19 yX1_checkRing wsX1_checkRing) := goodIn_app (goodIn_of _ (by decide +kernel)) ggX1_setDrift_X1_checkRing
set_option maxRecDepth 20000 in
theorem ggX1_setDrift_X1_checkArgument : GoodIn wsX1_setDrift wsX1_checkArgument := goodIn_ca (goodIn_r _ [11, 12, 13] (by decide +kernel) (by decide +kernel)) (goodIn_sub (fun _ h => List.mem_cons_of_mem _ (List.mem_append_right _ h)) (by decide +kernel))
set_option maxRecDepth 20000 in
theorem gX1_setDrift_X1_checkArgument : GoodIn wsX1_setDrift (va_wsS RX1 23 yX1_checkArgument wsX1_checkArgument) := goodIn_app (goodIn_of _ (by decide +kernel)) ggX1_setDrift_X1_checkArgument
theorem dX1_setDrift_0 : decode cX1_setDrift 0 = .ok (.iload_n 1, 1) := by decide +kernel
theorem dX1_setDrift_1 : decode cX1_setDrift 1 = .ok (.invokestatic 19, 3) := by decide +kernel
theorem dX1_setDrift_4 : decode cX1_setDrift 4 = .ok (.iload_n 2, 1) := by decide +kernel
theorem dX1_setDrift_5 : decode cX1_setDrift 5 = .ok (.bipush (-3), 2) := by decide +kernel
theorem dX1_setDrift_7 : decode cX1_setDrift 7 = .ok (.iconst 3, 1) := by decide +kernel
theorem dX1_setDrift_8 : decode cX1_setDrift 8 = .ok (.invokestatic 23, 3) := by decide +kernel
theorem dX1_setDrift_11 : decode cX1_setDrift 11 = .ok (.aload_n 0, 1) := by decide +kernel
theorem dX1_setDrift_12 : decode cX1_setDrift 12 = .ok (.getfield 10, 3) := by decide +kernel
theorem dX1_setDrift_15 : decode cX1_setDrift 15 = .ok (.getfield 55, 3) := by decide +kernel
theorem dX1_setDrift_18 : decode cX1_setDrift 18 = .ok (.iload_n 1, 1) := by decide +kernel
theorem dX1_setDrift_19 : decode cX1_setDrift 19 = .ok (.iaload, 1) := by decide +kernel
theorem dX1_setDrift_20 : decode cX1_setDrift 20 = .ok (.istore_n 3, 1) := by decide +kernel
theorem dX1_setDrift_21 : decode cX1_setDrift 21 = .ok (.aload_n 0, 1) := by decide +kernel
theorem dX1_setDrift_22 : decode cX1_setDrift 22 = .ok (.getfield 10, 3) := by decide +kernel
theorem dX1_setDrift_25 : decode cX1_setDrift 25 = .ok (.getfield 55, 3) := by decide +kernel
theorem dX1_setDrift_28 : decode cX1_setDrift 28 = .ok (.iload_n 1, 1) := by decide +kernel
theorem dX1_setDrift_29 : decode cX1_setDrift 29 = .ok (.iload_n 2, 1) := by decide +kernel
theorem dX1_setDrift_30 : decode cX1_setDrift 30 = .ok (.iastore, 1) := by decide +kernel
theorem dX1_setDrift_31 : decode cX1_setDrift 31 = .ok (.iload_n 3, 1) := by decide +kernel
theorem dX1_setDrift_32 : decode cX1_setDrift 32 = .ok (.ireturn, 1) := by decide +kernel
set_option maxRecDepth 20000 in
theorem ggX1_tune_X1_checkRing : GoodIn wsX1_tune wsX1_checkRing := goodIn_ca (goodIn_r _ [7, 8, 9] (by decide +kernel) (by decide +kernel)) (goodIn_sub (fun _ h => List.mem_cons_of_mem _ (List.mem_append_right _ h)) (by decide +kernel))
set_option maxRecDepth 20000 in
theorem gX1_tune_X1_checkRing : GoodIn wsX1_tune (va_wsS RX1 19 yX1_checkRing wsX1_checkRing) := goodIn_app (goodIn_of _ (by decide +kernel)) ggX1_tune_X1_checkRing
set_option maxRecDepth 20000 in
theorem ggX1_tune_X0_canTune : GoodIn wsX1_tune wsX0_canTune := goodIn_r _ [14, 15, 16, 17, 18, 19, 27, 28, 29, 30, 31, 32] (by decide +kernel) (by decide +kernel)
set_option maxRecDepth 20000 in
theorem gX1_tune_X0_canTune : GoodIn wsX1_tune (wsV RX1 58 RX0 yX0_canTune wsX0_canTune) := goodIn_app (goodIn_of _ (by decide +kernel)) ggX1_tune_X0_canTune
set_option maxRecDepth 20000 in
theorem ggX1_tune_X0_tuneOne : GoodIn wsX1_tune wsX0_tuneOne := goodIn_r _ [23, 24, 16, 17, 18, 19, 27, 28, 29, 30, 31, 32] (by decide +kernel) (by decide +kernel)
set_option maxRecDepth 20000 in
theorem gX1_tune_X0_tuneOne : GoodIn wsX1_tune (wsV RX1 69 RX0 yX0_tuneOne wsX0_tuneOne) := goodIn_app (goodIn_of _ (by decide +kernel)) ggX1_tune_X0_tuneOne
theorem dX1_tune_0 : decode cX1_tune 0 = .ok (.iload_n 1, 1) := by decide +kernel
theorem dX1_tune_1 : decode cX1_tune 1 = .ok (.invokestatic 19, 3) := by decide +kernel
theorem dX1_tune_4 : decode cX1_tune 4 = .ok (.aload_n 0, 1) := by decide +kernel
theorem dX1_tune_5 : decode cX1_tune 5 = .ok (.getfield 10, 3) := by decide +kernel
theorem dX1_tune_8 : decode cX1_tune 8 = .ok (.iload_n 1, 1) := by decide +kernel
theorem dX1_tune_9 : decode cX1_tune 9 = .ok (.invokevirtual 58, 3) := by decide +kernel
theorem dX1_tune_12 : decode cX1_tune 12 = .ok (.ifCond .ne 13, 3) := by decide +kernel
theorem dX1_tune_15 : decode cX1_tune 15 = .ok (.new 62, 3) := by decide +kernel
theorem dX1_tune_18 : decode cX1_tune 18 = .ok (.dup, 1) := by decide +kernel
theorem dX1_tune_19 : decode cX1_tune 19 = .ok (.ldc 64, 2) := by decide +kernel
theorem dX1_tune_21 : decode cX1_tune 21 = .ok (.invokespecial 66, 3) := by decide +kernel
theorem dX1_tune_24 : decode cX1_tune 24 = .ok (.athrow, 1) := by decide +kernel
theorem dX1_tune_25 : decode cX1_tune 25 = .ok (.aload_n 0, 1) := by decide +kernel
theorem dX1_tune_26 : decode cX1_tune 26 = .ok (.getfield 10, 3) := by decide +kernel
theorem dX1_tune_29 : decode cX1_tune 29 = .ok (.iload_n 1, 1) := by decide +kernel
theorem dX1_tune_30 : decode cX1_tune 30 = .ok (.invokevirtual 69, 3) := by decide +kernel
theorem dX1_tune_33 : decode cX1_tune 33 = .ok (.ireturn, 1) := by decide +kernel
set_option maxRecDepth 20000 in
theorem ggX1_tuneAll_X0_tuneRound : GoodIn wsX1_tuneAll wsX0_tuneRound := goodIn_r _ [6, 7, 8, 9, 10, 5, 11, 12, 13, 14, 15, 16, 19, 20, 21, 22, 23, 24] (by decide +kernel) (by decide +kernel)
set_option maxRecDepth 20000 in
theorem gX1_tuneAll_X0_tuneRound : GoodIn wsX1_tuneAll (wsV RX1 73 RX0 yX0_tuneRound wsX0_tuneRound) := goodIn_app (goodIn_of _ (by decide +kernel)) ggX1_tuneAll_X0_tuneRound
theorem dX1_tuneAll_0 : decode cX1_tuneAll 0 = .ok (.aload_n 0, 1) := by decide +kernel
theorem dX1_tuneAll_1 : decode cX1_tuneAll 1 = .ok (.getfield 10, 3) := by decide +kernel
theorem dX1_tuneAll_4 : decode cX1_tuneAll 4 = .ok (.invokevirtual 73, 3) := by decide +kernel
theorem dX1_tuneAll_7 : decode cX1_tuneAll 7 = .ok (.ireturn, 1) := by decide +kernel
set_option maxRecDepth 20000 in
theorem ggX1_sweeten_X1_checkRing : GoodIn wsX1_sweeten wsX1_checkRing := goodIn_ca (goodIn_r _ [8, 9, 10] (by decide +kernel) (by decide +kernel)) (goodIn_sub (fun _ h => List.mem_cons_of_mem _ (List.mem_append_right _ h)) (by decide +kernel))
set_option maxRecDepth 20000 in
theorem gX1_sweeten_X1_checkRing : GoodIn wsX1_sweeten (va_wsS RX1 19 yX1_checkRing wsX1_checkRing) := goodIn_app (goodIn_of _ (by decide +kernel)) ggX1_sweeten_X1_checkRing
set_option maxRecDepth 20000 in
theorem ggX1_sweeten_X0_offForPureMajor : GoodIn wsX1_sweeten wsX0_offForPureMajor := goodIn_r _ [15, 16, 17, 18, 19, 20, 21, 22, 23, 14, 24, 25, 26, 27, 28, 29, 33, 34, 35, 36, 37, 38] (by decide +kernel) (by decide +kernel)
set_option maxRecDepth 20000 in
theorem gX1_sweeten_X0_offForPureMajor : GoodIn wsX1_sweeten (wsV RX1 76 RX0 yX0_offForPureMajor wsX0_offForPureMajor) := goodIn_app (goodIn_of _ (by decide +kernel)) ggX1_sweeten_X0_offForPureMajor
set_option maxRecDepth 20000 in
theorem ggX1_sweeten_J9_floorMod_7cf53 : GoodIn wsX1_sweeten wsJ9_floorMod_7cf53 := goodIn_r _ [20] (by decide +kernel) (by decide +kernel)
set_option maxRecDepth 20000 in
theorem gX1_sweeten_J9_floorMod_7cf53 : GoodIn wsX1_sweeten (va_wsS RX1 84 yJ9_floorMod_7cf53 wsJ9_floorMod_7cf53) := goodIn_app (goodIn_of _ (by decide +kernel)) ggX1_sweeten_J9_floorMod_7cf53
theorem dX1_sweeten_0 : decode cX1_sweeten 0 = .ok (.iload_n 1, 1) := by decide +kernel
theorem dX1_sweeten_1 : decode cX1_sweeten 1 = .ok (.invokestatic 19, 3) := by decide +kernel
theorem dX1_sweeten_4 : decode cX1_sweeten 4 = .ok (.aload_n 0, 1) := by decide +kernel
theorem dX1_sweeten_5 : decode cX1_sweeten 5 = .ok (.getfield 10, 3) := by decide +kernel
theorem dX1_sweeten_8 : decode cX1_sweeten 8 = .ok (.iload_n 1, 1) := by decide +kernel
theorem dX1_sweeten_9 : decode cX1_sweeten 9 = .ok (.invokevirtual 76, 3) := by decide +kernel
theorem dX1_sweeten_12 : decode cX1_sweeten 12 = .ok (.istore_n 2, 1) := by decide +kernel
theorem dX1_sweeten_13 : decode cX1_sweeten 13 = .ok (.iload_n 2, 1) := by decide +kernel
theorem dX1_sweeten_14 : decode cX1_sweeten 14 = .ok (.bipush (-50), 2) := by decide +kernel
theorem dX1_sweeten_16 : decode cX1_sweeten 16 = .ok (.if_icmp .lt 9, 3) := by decide +kernel
theorem dX1_sweeten_19 : decode cX1_sweeten 19 = .ok (.iload_n 2, 1) := by decide +kernel
theorem dX1_sweeten_20 : decode cX1_sweeten 20 = .ok (.bipush 50, 2) := by decide +kernel
theorem dX1_sweeten_22 : decode cX1_sweeten 22 = .ok (.if_icmp .le 13, 3) := by decide +kernel
theorem dX1_sweeten_25 : decode cX1_sweeten 25 = .ok (.new 62, 3) := by decide +kernel
theorem dX1_sweeten_28 : decode cX1_sweeten 28 = .ok (.dup, 1) := by decide +kernel
theorem dX1_sweeten_29 : decode cX1_sweeten 29 = .ok (.ldc 79, 2) := by decide +kernel
theorem dX1_sweeten_31 : decode cX1_sweeten 31 = .ok (.invokespecial 66, 3) := by decide +kernel
theorem dX1_sweeten_34 : decode cX1_sweeten 34 = .ok (.athrow, 1) := by decide +kernel
theorem dX1_sweeten_35 : decode cX1_sweeten 35 = .ok (.aload_n 0, 1) := by decide +kernel
theorem dX1_sweeten_36 : decode cX1_sweeten 36 = .ok (.getfield 10, 3) := by decide +kernel
theorem dX1_sweeten_39 : decode cX1_sweeten 39 = .ok (.getfield 81, 3) := by decide +kernel
theorem dX1_sweeten_42 : decode cX1_sweeten 42 = .ok (.iload_n 1, 1) := by decide +kernel
theorem dX1_sweeten_43 : decode cX1_sweeten 43 = .ok (.iconst 4, 1) := by decide +kernel
theorem dX1_sweeten_44 : decode cX1_sweeten 44 = .ok (.iadd, 1) := by decide +kernel
theorem dX1_sweeten_45 : decode cX1_sweeten 45 = .ok (.bipush 12, 2) := by decide +kernel
theorem dX1_sweeten_47 : decode cX1_sweeten 47 = .ok (.invokestatic 84, 3) := by decide +kernel
theorem dX1_sweeten_50 : decode cX1_sweeten 50 = .ok (.iload_n 2, 1) := by decide +kernel
theorem dX1_sweeten_51 : decode cX1_sweeten 51 = .ok (.iastore, 1) := by decide +kernel
theorem dX1_sweeten_52 : decode cX1_sweeten 52 = .ok (.iload_n 2, 1) := by decide +kernel
theorem dX1_sweeten_53 : decode cX1_sweeten 53 = .ok (.ireturn, 1) := by decide +kernel
set_option maxRecDepth 20000 in
theorem ggX1_pass_X1_checkArgument : GoodIn wsX1_pass wsX1_checkArgument := goodIn_ca (goodIn_r _ [5, 6, 7] (by decide +kernel) (by decide +kernel)) (goodIn_sub (fun _ h => List.mem_cons_of_mem _ (List.mem_append_right _ h)) (by decide +kernel))
set_option maxRecDepth 20000 in
theorem gX1_pass_X1_checkArgument : GoodIn wsX1_pass (va_wsS RX1 23 yX1_checkArgument wsX1_checkArgument) := goodIn_app (goodIn_of _ (by decide +kernel)) ggX1_pass_X1_checkArgument
set_option maxRecDepth 20000 in
theorem ggX1_pass_X0_letPass : GoodIn wsX1_pass wsX0_letPass := goodIn_r _ [12, 13, 14, 15, 16, 17, 18, 19, 20, 21, 22, 32, 33, 34, 35, 36, 37] (by decide +kernel) (by decide +kernel)
set_option maxRecDepth 20000 in
theorem gX1_pass_X0_letPass : GoodIn wsX1_pass (wsV RX1 90 RX0 yX0_letPass wsX0_letPass) := goodIn_app (goodIn_of _ (by decide +kernel)) ggX1_pass_X0_letPass
set_option maxRecDepth 20000 in
theorem ggX1_pass_X0_mostOff : GoodIn wsX1_pass wsX0_mostOff := goodIn_r _ [26, 13, 27, 28, 17, 29, 19, 20, 21, 32, 33, 34, 35, 36, 37] (by decide +kernel) (by decide +kernel)
set_option maxRecDepth 20000 in
theorem gX1_pass_X0_mostOff : GoodIn wsX1_pass (wsV RX1 93 RX0 yX0_mostOff wsX0_mostOff) := goodIn_app (goodIn_of _ (by decide +kernel)) ggX1_pass_X0_mostOff
theorem dX1_pass_0 : decode cX1_pass 0 = .ok (.iload_n 1, 1) := by decide +kernel
theorem dX1_pass_1 : decode cX1_pass 1 = .ok (.iconst 1, 1) := by decide +kernel
theorem dX1_pass_2 : decode cX1_pass 2 = .ok (.bipush 100, 2) := by decide +kernel
theorem dX1_pass_4 : decode cX1_pass 4 = .ok (.invokestatic 23, 3) := by decide +kernel
theorem dX1_pass_7 : decode cX1_pass 7 = .ok (.aload_n 0, 1) := by decide +kernel
theorem dX1_pass_8 : decode cX1_pass 8 = .ok (.getfield 10, 3) := by decide +kernel
theorem dX1_pass_11 : decode cX1_pass 11 = .ok (.iload_n 1, 1) := by decide +kernel
theorem dX1_pass_12 : decode cX1_pass 12 = .ok (.invokevirtual 90, 3) := by decide +kernel
theorem dX1_pass_15 : decode cX1_pass 15 = .ok (.aload_n 0, 1) := by decide +kernel
theorem dX1_pass_16 : decode cX1_pass 16 = .ok (.getfield 10, 3) := by decide +kernel
theorem dX1_pass_19 : decode cX1_pass 19 = .ok (.invokevirtual 93, 3) := by decide +kernel
theorem dX1_pass_22 : decode cX1_pass 22 = .ok (.ireturn, 1) := by decide +kernel
set_option maxRecDepth 20000 in
theorem ggX1_fifth_X1_checkRing : GoodIn wsX1_fifth wsX1_checkRing := goodIn_ca (goodIn_r _ [5, 6, 7] (by decide +kernel) (by decide +kernel)) (goodIn_sub (fun _ h => List.mem_cons_of_mem _ (List.mem_append_right _ h)) (by decide +kernel))
set_option maxRecDepth 20000 in
theorem gX1_fifth_X1_checkRing : GoodIn wsX1_fifth (va_wsS RX1 19 yX1_checkRing wsX1_checkRing) := goodIn_app (goodIn_of _ (by decide +kernel)) ggX1_fifth_X1_checkRing
set_option maxRecDepth 20000 in
theorem ggX1_fifth_X1_checkWhat : GoodIn wsX1_fifth wsX1_checkWhat := goodIn_ca (goodIn_r _ [10, 6, 7] (by decide +kernel) (by decide +kernel)) (goodIn_sub (fun _ h => List.mem_cons_of_mem _ (List.mem_append_right _ h)) (by decide +kernel))
set_option maxRecDepth 20000 in
theorem gX1_fifth_X1_checkWhat : GoodIn wsX1_fifth (va_wsS RX1 96 yX1_checkWhat wsX1_checkWhat) := goodIn_app (goodIn_of _ (by decide +kernel)) ggX1_fifth_X1_checkWhat
set_option maxRecDepth 20000 in
theorem ggX1_fifth_X0_tellFifth : GoodIn wsX1_fifth wsX0_tellFifth := goodIn_r _ [15, 16, 17, 18, 19, 20, 21, 22, 23, 24, 14, 25, 26, 27, 28, 29, 30, 31, 32, 33, 34, 35, 36, 37, 38, 39, 40, 41, 42, 43, 44, 45, 46, 49, 50, 51, 52, 53, 54] (by decide +kernel) (by decide +kernel)
set_option maxRecDepth 20000 in
theorem gX1_fifth_X0_tellFifth : GoodIn wsX1_fifth (wsV RX1 99 RX0 yX0_tellFifth wsX0_tellFifth) := goodIn_app (goodIn_of _ (by decide +kernel)) ggX1_fifth_X0_tellFifth
theorem dX1_fifth_0 : decode cX1_fifth 0 = .ok (.iload_n 1, 1) := by decide +kernel
theorem dX1_fifth_1 : decode cX1_fifth 1 = .ok (.invokestatic 19, 3) := by decide +kernel
theorem dX1_fifth_4 : decode cX1_fifth 4 = .ok (.iload_n 2, 1) := by decide +kernel
theorem dX1_fifth_5 : decode cX1_fifth 5 = .ok (.iconst 0, 1) := by decide +kernel
theorem dX1_fifth_6 : decode cX1_fifth 6 = .ok (.iconst 5, 1) := by decide +kernel
theorem dX1_fifth_7 : decode cX1_fifth 7 = .ok (.invokestatic 96, 3) := by decide +kernel
theorem dX1_fifth_10 : decode cX1_fifth 10 = .ok (.aload_n 0, 1) := by decide +kernel
theorem dX1_fifth_11 : decode cX1_fifth 11 = .ok (.getfield 10, 3) := by decide +kernel
theorem dX1_fifth_14 : decode cX1_fifth 14 = .ok (.iload_n 1, 1) := by decide +kernel
theorem dX1_fifth_15 : decode cX1_fifth 15 = .ok (.iload_n 2, 1) := by decide +kernel
theorem dX1_fifth_16 : decode cX1_fifth 16 = .ok (.invokevirtual 99, 3) := by decide +kernel
theorem dX1_fifth_19 : decode cX1_fifth 19 = .ok (.ireturn, 1) := by decide +kernel
set_option maxRecDepth 20000 in
theorem ggX1_major_X1_checkRing : GoodIn wsX1_major wsX1_checkRing := goodIn_ca (goodIn_r _ [5, 6, 7] (by decide +kernel) (by decide +kernel)) (goodIn_sub (fun _ h => List.mem_cons_of_mem _ (List.mem_append_right _ h)) (by decide +kernel))
set_option maxRecDepth 20000 in
theorem gX1_major_X1_checkRing : GoodIn wsX1_major (va_wsS RX1 19 yX1_checkRing wsX1_checkRing) := goodIn_app (goodIn_of _ (by decide +kernel)) ggX1_major_X1_checkRing
set_option maxRecDepth 20000 in
theorem ggX1_major_X1_checkWhat : GoodIn wsX1_major wsX1_checkWhat := goodIn_ca (goodIn_r _ [10, 6, 7] (by decide +kernel) (by decide +kernel)) (goodIn_sub (fun _ h => List.mem_cons_of_mem _ (List.mem_append_right _ h)) (by decide +kernel))
set_option maxRecDepth 20000 in
theorem gX1_major_X1_checkWhat : GoodIn wsX1_major (va_wsS RX1 96 yX1_checkWhat wsX1_checkWhat) := goodIn_app (goodIn_of _ (by decide +kernel)) ggX1_major_X1_checkWhat
set_option maxRecDepth 20000 in
theorem ggX1_major_X0_tellMajor : GoodIn wsX1_major wsX0_tellMajor := goodIn_r _ [15, 16, 17, 18, 14, 19, 20, 21, 22, 23, 24, 25, 26, 27, 28, 29, 30, 31, 32, 33, 34, 35, 36, 37, 38, 39, 40, 41, 42, 43, 44, 45, 48, 49, 50, 51, 52, 53] (by decide +kernel) (by decide +kernel)
set_option maxRecDepth 20000 in
theorem gX1_major_X0_tellMajor : GoodIn wsX1_major (wsV RX1 102 RX0 yX0_tellMajor wsX0_tellMajor) := goodIn_app (goodIn_of _ (by decide +kernel)) ggX1_major_X0_tellMajor
theorem dX1_major_0 : decode cX1_major 0 = .ok (.iload_n 1, 1) := by decide +kernel
theorem dX1_major_1 : decode cX1_major 1 = .ok (.invokestatic 19, 3) := by decide +kernel
theorem dX1_major_4 : decode cX1_major 4 = .ok (.iload_n 2, 1) := by decide +kernel
theorem dX1_major_5 : decode cX1_major 5 = .ok (.iconst 0, 1) := by decide +kernel
theorem dX1_major_6 : decode cX1_major 6 = .ok (.iconst 3, 1) := by decide +kernel
theorem dX1_major_7 : decode cX1_major 7 = .ok (.invokestatic 96, 3) := by decide +kernel
theorem dX1_major_10 : decode cX1_major 10 = .ok (.aload_n 0, 1) := by decide +kernel
theorem dX1_major_11 : decode cX1_major 11 = .ok (.getfield 10, 3) := by decide +kernel
theorem dX1_major_14 : decode cX1_major 14 = .ok (.iload_n 1, 1) := by decide +kernel
theorem dX1_major_15 : decode cX1_major 15 = .ok (.iload_n 2, 1) := by decide +kernel
theorem dX1_major_16 : decode cX1_major 16 = .ok (.invokevirtual 102, 3) := by decide +kernel
theorem dX1_major_19 : decode cX1_major 19 = .ok (.ireturn, 1) := by decide +kernel
set_option maxRecDepth 20000 in
theorem ggX1_minor_X1_checkRing : GoodIn wsX1_minor wsX1_checkRing := goodIn_ca (goodIn_r _ [5, 6, 7] (by decide +kernel) (by decide +kernel)) (goodIn_sub (fun _ h => List.mem_cons_of_mem _ (List.mem_append_right _ h)) (by decide +kernel))
set_option maxRecDepth 20000 in
theorem gX1_minor_X1_checkRing : GoodIn wsX1_minor (va_wsS RX1 19 yX1_checkRing wsX1_checkRing) := goodIn_app (goodIn_of _ (by decide +kernel)) ggX1_minor_X1_checkRing
set_option maxRecDepth 20000 in
theorem ggX1_minor_X1_checkWhat : GoodIn wsX1_minor wsX1_checkWhat := goodIn_ca (goodIn_r _ [10, 6, 7] (by decide +kernel) (by decide +kernel)) (goodIn_sub (fun _ h => List.mem_cons_of_mem _ (List.mem_append_right _ h)) (by decide +kernel))
set_option maxRecDepth 20000 in
theorem gX1_minor_X1_checkWhat : GoodIn wsX1_minor (va_wsS RX1 96 yX1_checkWhat wsX1_checkWhat) := goodIn_app (goodIn_of _ (by decide +kernel)) ggX1_minor_X1_checkWhat
set_option maxRecDepth 20000 in
theorem ggX1_minor_X0_tellMinor : GoodIn wsX1_minor wsX0_tellMinor := goodIn_r _ [15, 16, 17, 18, 14, 19, 20, 21, 22, 23, 24, 25, 26, 27, 28, 29, 32, 33, 34, 35, 36, 37] (by decide +kernel) (by decide +kernel)
set_option maxRecDepth 20000 in
theorem gX1_minor_X0_tellMinor : GoodIn wsX1_minor (wsV RX1 105 RX0 yX0_tellMinor wsX0_tellMinor) := goodIn_app (goodIn_of _ (by decide +kernel)) ggX1_minor_X0_tellMinor
theorem dX1_minor_0 : decode cX1_minor 0 = .ok (.iload_n 1, 1) := by decide +kernel
theorem dX1_minor_1 : decode cX1_minor 1 = .ok (.invokestatic 19, 3) := by decide +kernel
theorem dX1_minor_4 : decode cX1_minor 4 = .ok (.iload_n 2, 1) := by decide +kernel
theorem dX1_minor_5 : decode cX1_minor 5 = .ok (.iconst 0, 1) := by decide +kernel
theorem dX1_minor_6 : decode cX1_minor 6 = .ok (.iconst 2, 1) := by decide +kernel
theorem dX1_minor_7 : decode cX1_minor 7 = .ok (.invokestatic 96, 3) := by decide +kernel
theorem dX1_minor_10 : decode cX1_minor 10 = .ok (.aload_n 0, 1) := by decide +kernel
theorem dX1_minor_11 : decode cX1_minor 11 = .ok (.getfield 10, 3) := by decide +kernel
theorem dX1_minor_14 : decode cX1_minor 14 = .ok (.iload_n 1, 1) := by decide +kernel
theorem dX1_minor_15 : decode cX1_minor 15 = .ok (.iload_n 2, 1) := by decide +kernel
theorem dX1_minor_16 : decode cX1_minor 16 = .ok (.invokevirtual 105, 3) := by decide +kernel
theorem dX1_minor_19 : decode cX1_minor 19 = .ok (.ireturn, 1) := by decide +kernel
set_option maxRecDepth 20000 in
theorem ggX1_note_X1_checkRing : GoodIn wsX1_note wsX1_checkRing := goodIn_ca (goodIn_r _ [5, 6, 7] (by decide +kernel) (by decide +kernel)) (goodIn_sub (fun _ h => List.mem_cons_of_mem _ (List.mem_append_right _ h)) (by decide +kernel))
set_option maxRecDepth 20000 in
theorem gX1_note_X1_checkRing : GoodIn wsX1_note (va_wsS RX1 19 yX1_checkRing wsX1_checkRing) := goodIn_app (goodIn_of _ (by decide +kernel)) ggX1_note_X1_checkRing
set_option maxRecDepth 20000 in
theorem ggX1_note_X1_checkWhat : GoodIn wsX1_note wsX1_checkWhat := goodIn_ca (goodIn_r _ [10, 6, 7] (by decide +kernel) (by decide +kernel)) (goodIn_sub (fun _ h => List.mem_cons_of_mem _ (List.mem_append_right _ h)) (by decide +kernel))
set_option maxRecDepth 20000 in
theorem gX1_note_X1_checkWhat : GoodIn wsX1_note (va_wsS RX1 96 yX1_checkWhat wsX1_checkWhat) := goodIn_app (goodIn_of _ (by decide +kernel)) ggX1_note_X1_checkWhat
set_option maxRecDepth 20000 in
theorem ggX1_note_X0_tellNote : GoodIn wsX1_note wsX0_tellNote := goodIn_r _ [15, 16, 17, 18, 19, 20, 21, 22, 23, 24, 14, 25, 26, 27, 28, 29, 30, 31, 32, 33, 34, 35, 36, 37, 38, 39, 40, 41, 42, 45, 46, 47, 48, 49, 50] (by decide +kernel) (by decide +kernel)
set_option maxRecDepth 20000 in
theorem gX1_note_X0_tellNote : GoodIn wsX1_note (wsV RX1 108 RX0 yX0_tellNote wsX0_tellNote) := goodIn_app (goodIn_of _ (by decide +kernel)) ggX1_note_X0_tellNote
theorem dX1_note_0 : decode cX1_note 0 = .ok (.iload_n 1, 1) := by decide +kernel
theorem dX1_note_1 : decode cX1_note 1 = .ok (.invokestatic 19, 3) := by decide +kernel
theorem dX1_note_4 : decode cX1_note 4 = .ok (.iload_n 2, 1) := by decide +kernel
theorem dX1_note_5 : decode cX1_note 5 = .ok (.iconst 0, 1) := by decide +kernel
theorem dX1_note_6 : decode cX1_note 6 = .ok (.iconst 5, 1) := by decide +kernel
theorem dX1_note_7 : decode cX1_note 7 = .ok (.invokestatic 96, 3) := by decide +kernel
theorem dX1_note_10 : decode cX1_note 10 = .ok (.aload_n 0, 1) := by decide +kernel
theorem dX1_note_11 : decode cX1_note 11 = .ok (.getfield 10, 3) := by decide +kernel
theorem dX1_note_14 : decode cX1_note 14 = .ok (.iload_n 1, 1) := by decide +kernel
theorem dX1_note_15 : decode cX1_note 15 = .ok (.iload_n 2, 1) := by decide +kernel
theorem dX1_note_16 : decode cX1_note 16 = .ok (.invokevirtual 108, 3) := by decide +kernel
theorem dX1_note_19 : decode cX1_note 19 = .ok (.ireturn, 1) := by decide +kernel
set_option maxRecDepth 20000 in
theorem ggX1_key_X1_checkRing : GoodIn wsX1_key wsX1_checkRing := goodIn_ca (goodIn_r _ [5, 6, 7] (by decide +kernel) (by decide +kernel)) (goodIn_sub (fun _ h => List.mem_cons_of_mem _ (List.mem_append_right _ h)) (by decide +kernel))
set_option maxRecDepth 20000 in
theorem gX1_key_X1_checkRing : GoodIn wsX1_key (va_wsS RX1 19 yX1_checkRing wsX1_checkRing) := goodIn_app (goodIn_of _ (by decide +kernel)) ggX1_key_X1_checkRing
set_option maxRecDepth 20000 in
theorem ggX1_key_X1_checkWhat : GoodIn wsX1_key wsX1_checkWhat := goodIn_ca (goodIn_r _ [10, 6, 7] (by decide +kernel) (by decide +kernel)) (goodIn_sub (fun _ h => List.mem_cons_of_mem _ (List.mem_append_right _ h)) (by decide +kernel))
set_option maxRecDepth 20000 in
theorem gX1_key_X1_checkWhat : GoodIn wsX1_key (va_wsS RX1 96 yX1_checkWhat wsX1_checkWhat) := goodIn_app (goodIn_of _ (by decide +kernel)) ggX1_key_X1_checkWhat
set_option maxRecDepth 20000 in
theorem ggX1_key_X0_tellKey : GoodIn wsX1_key wsX0_tellKey := goodIn_r _ [15, 16, 17, 18, 19, 20, 21, 22, 23, 14, 24, 25, 26, 27, 28, 29, 30, 31, 32, 33, 34, 35, 36, 37, 38, 39, 40, 41, 42, 45, 46, 47, 48, 49, 50] (by decide +kernel) (by decide +kernel)
set_option maxRecDepth 20000 in
theorem gX1_key_X0_tellKey : GoodIn wsX1_key (wsV RX1 111 RX0 yX0_tellKey wsX0_tellKey) := goodIn_app (goodIn_of _ (by decide +kernel)) ggX1_key_X0_tellKey
theorem dX1_key_0 : decode cX1_key 0 = .ok (.iload_n 1, 1) := by decide +kernel
theorem dX1_key_1 : decode cX1_key 1 = .ok (.invokestatic 19, 3) := by decide +kernel
theorem dX1_key_4 : decode cX1_key 4 = .ok (.iload_n 2, 1) := by decide +kernel
theorem dX1_key_5 : decode cX1_key 5 = .ok (.iconst 0, 1) := by decide +kernel
theorem dX1_key_6 : decode cX1_key 6 = .ok (.iconst 4, 1) := by decide +kernel
theorem dX1_key_7 : decode cX1_key 7 = .ok (.invokestatic 96, 3) := by decide +kernel
theorem dX1_key_10 : decode cX1_key 10 = .ok (.aload_n 0, 1) := by decide +kernel
theorem dX1_key_11 : decode cX1_key 11 = .ok (.getfield 10, 3) := by decide +kernel
theorem dX1_key_14 : decode cX1_key 14 = .ok (.iload_n 1, 1) := by decide +kernel
theorem dX1_key_15 : decode cX1_key 15 = .ok (.iload_n 2, 1) := by decide +kernel
theorem dX1_key_16 : decode cX1_key 16 = .ok (.invokevirtual 111, 3) := by decide +kernel
theorem dX1_key_19 : decode cX1_key 19 = .ok (.ireturn, 1) := by decide +kernel
set_option maxRecDepth 20000 in
theorem ggX1_count_X1_checkWhat : GoodIn wsX1_count wsX1_checkWhat := goodIn_ca (goodIn_r _ [5, 6, 7] (by decide +kernel) (by decide +kernel)) (goodIn_sub (fun _ h => List.mem_cons_of_mem _ (List.mem_append_right _ h)) (by decide +kernel))
set_option maxRecDepth 20000 in
theorem gX1_count_X1_checkWhat : GoodIn wsX1_count (va_wsS RX1 96 yX1_checkWhat wsX1_checkWhat) := goodIn_app (goodIn_of _ (by decide +kernel)) ggX1_count_X1_checkWhat
set_option maxRecDepth 20000 in
theorem ggX1_count_X0_tellCount : GoodIn wsX1_count wsX0_tellCount := goodIn_r _ [12, 13, 14, 15, 16, 17, 11, 18, 19, 20, 21, 22, 23, 24, 25, 26, 27, 28, 29, 30, 31, 32, 33, 34, 35, 36, 37, 38, 39, 40, 41, 42, 43, 44, 45, 46, 47, 48, 49, 50, 51, 52, 53, 54, 55, 56, 57, 58, 59, 60, 61, 62, 63, 64, 65, 66, 67, 68, 69, 70, 71, 72, 75, 76, 77, 78, 79, 80] (by decide +kernel) (by decide +kernel)
set_option maxRecDepth 20000 in
theorem gX1_count_X0_tellCount : GoodIn wsX1_count (wsV RX1 114 RX0 yX0_tellCount wsX0_tellCount) := goodIn_app (goodIn_of _ (by decide +kernel)) ggX1_count_X0_tellCount
theorem dX1_count_0 : decode cX1_count 0 = .ok (.iload_n 1, 1) := by decide +kernel
theorem dX1_count_1 : decode cX1_count 1 = .ok (.iconst 0, 1) := by decide +kernel
theorem dX1_count_2 : decode cX1_count 2 = .ok (.bipush 7, 2) := by decide +kernel
theorem dX1_count_4 : decode cX1_count 4 = .ok (.invokestatic 96, 3) := by decide +kernel
theorem dX1_count_7 : decode cX1_count 7 = .ok (.aload_n 0, 1) := by decide +kernel
theorem dX1_count_8 : decode cX1_count 8 = .ok (.getfield 10, 3) := by decide +kernel
theorem dX1_count_11 : decode cX1_count 11 = .ok (.iload_n 1, 1) := by decide +kernel
theorem dX1_count_12 : decode cX1_count 12 = .ok (.invokevirtual 114, 3) := by decide +kernel
theorem dX1_count_15 : decode cX1_count 15 = .ok (.ireturn, 1) := by decide +kernel
set_option maxRecDepth 20000 in
theorem ggX1_foresee_X1_checkArgument : GoodIn wsX1_foresee wsX1_checkArgument := goodIn_ca (goodIn_r _ [5, 6, 7] (by decide +kernel) (by decide +kernel)) (goodIn_sub (fun _ h => List.mem_cons_of_mem _ (List.mem_append_left _ (List.mem_append_right _ h))) (by decide +kernel))
set_option maxRecDepth 20000 in
theorem gX1_foresee_X1_checkArgument : GoodIn wsX1_foresee (va_wsS RX1 23 yX1_checkArgument wsX1_checkArgument) := goodIn_app (goodIn_of _ (by decide +kernel)) ggX1_foresee_X1_checkArgument
set_option maxRecDepth 20000 in
theorem ggX1_foresee_X1_checkWhat : GoodIn wsX1_foresee wsX1_checkWhat := goodIn_ca (goodIn_r _ [10, 11, 12] (by decide +kernel) (by decide +kernel)) (goodIn_sub (fun _ h => List.mem_cons_of_mem _ (List.mem_append_right _ h)) (by decide +kernel))
set_option maxRecDepth 20000 in
theorem gX1_foresee_X1_checkWhat : GoodIn wsX1_foresee (va_wsS RX1 96 yX1_checkWhat wsX1_checkWhat) := goodIn_app (goodIn_of _ (by decide +kernel)) ggX1_foresee_X1_checkWhat
set_option maxRecDepth 20000 in
theorem ggX1_foresee_X1_startTrial : GoodIn wsX1_foresee wsX1_startTrial := goodIn_r _ [16, 1, 17, 18, 19, 20, 21, 22, 23, 97, 98, 99, 100, 101, 102, 103, 104] (by decide +kernel) (by decide +kernel)
set_option maxRecDepth 20000 in
theorem gX1_foresee_X1_startTrial : GoodIn wsX1_foresee (wsV RX1 117 RX1 yX1_startTrial wsX1_startTrial) := goodIn_app (goodIn_of _ (by decide +kernel)) ggX1_foresee_X1_startTrial
set_option maxRecDepth 20000 in
theorem ggX1_foresee_X0_letPass : GoodIn wsX1_foresee wsX0_letPass := goodIn_r _ [28, 29, 30, 31, 32, 33, 34, 35, 36, 37, 38, 99, 100, 101, 102, 103, 104] (by decide +kernel) (by decide +kernel)
set_option maxRecDepth 20000 in
theorem gX1_foresee_X0_letPass : GoodIn wsX1_foresee (wsV RX1 90 RX0 yX0_letPass wsX0_letPass) := goodIn_app (goodIn_of _ (by decide +kernel)) ggX1_foresee_X0_letPass
set_option maxRecDepth 20000 in
theorem ggX1_foresee_X0_tellCount : GoodIn wsX1_foresee wsX0_tellCount := goodIn_r _ [42, 38, 43, 44, 45, 46, 27, 47, 48, 49, 50, 51, 52, 53, 54, 33, 55, 56, 57, 58, 59, 60, 61, 62, 63, 64, 29, 65, 66, 67, 68, 69, 70, 71, 72, 35, 36, 37, 73, 74, 75, 76, 77, 78, 79, 80, 81, 82, 83, 84, 85, 86, 87, 88, 89, 90, 91, 92, 93, 94, 95, 96, 99, 100, 101, 102, 103, 104] (by decide +kernel) (by decide +kernel)
set_option maxRecDepth 20000 in
theorem gX1_foresee_X0_tellCount : GoodIn wsX1_foresee (wsV RX1 114 RX0 yX0_tellCount wsX0_tellCount) := goodIn_app (goodIn_of _ (by decide +kernel)) ggX1_foresee_X0_tellCount
theorem dX1_foresee_0 : decode cX1_foresee 0 = .ok (.iload_n 1, 1) := by decide +kernel
theorem dX1_foresee_1 : decode cX1_foresee 1 = .ok (.iconst 1, 1) := by decide +kernel
theorem dX1_foresee_2 : decode cX1_foresee 2 = .ok (.bipush 100, 2) := by decide +kernel
theorem dX1_foresee_4 : decode cX1_foresee 4 = .ok (.invokestatic 23, 3) := by decide +kernel
theorem dX1_foresee_7 : decode cX1_foresee 7 = .ok (.iload_n 2, 1) := by decide +kernel
theorem dX1_foresee_8 : decode cX1_foresee 8 = .ok (.iconst 2, 1) := by decide +kernel
theorem dX1_foresee_9 : decode cX1_foresee 9 = .ok (.bipush 7, 2) := by decide +kernel
theorem dX1_foresee_11 : decode cX1_foresee 11 = .ok (.invokestatic 96, 3) := by decide +kernel
theorem dX1_foresee_14 : decode cX1_foresee 14 = .ok (.aload_n 0, 1) := by decide +kernel
theorem dX1_foresee_15 : decode cX1_foresee 15 = .ok (.invokevirtual 117, 3) := by decide +kernel
theorem dX1_foresee_18 : decode cX1_foresee 18 = .ok (.aload_n 0, 1) := by decide +kernel
theorem dX1_foresee_19 : decode cX1_foresee 19 = .ok (.getfield 16, 3) := by decide +kernel
theorem dX1_foresee_22 : decode cX1_foresee 22 = .ok (.iload_n 1, 1) := by decide +kernel
theorem dX1_foresee_23 : decode cX1_foresee 23 = .ok (.invokevirtual 90, 3) := by decide +kernel
theorem dX1_foresee_26 : decode cX1_foresee 26 = .ok (.aload_n 0, 1) := by decide +kernel
theorem dX1_foresee_27 : decode cX1_foresee 27 = .ok (.getfield 16, 3) := by decide +kernel
theorem dX1_foresee_30 : decode cX1_foresee 30 = .ok (.iload_n 2, 1) := by decide +kernel
theorem dX1_foresee_31 : decode cX1_foresee 31 = .ok (.invokevirtual 114, 3) := by decide +kernel
theorem dX1_foresee_34 : decode cX1_foresee 34 = .ok (.ireturn, 1) := by decide +kernel
set_option maxRecDepth 20000 in
theorem ggX1_until_X1_checkArgument : GoodIn wsX1_until wsX1_checkArgument := goodIn_ca (goodIn_r _ [5, 6, 7] (by decide +kernel) (by decide +kernel)) (goodIn_sub (fun _ h => List.mem_cons_of_mem _ (List.mem_append_right _ h)) (by decide +kernel))
set_option maxRecDepth 20000 in
theorem gX1_until_X1_checkArgument : GoodIn wsX1_until (va_wsS RX1 23 yX1_checkArgument wsX1_checkArgument) := goodIn_app (goodIn_of _ (by decide +kernel)) ggX1_until_X1_checkArgument
set_option maxRecDepth 20000 in
theorem ggX1_until_X1_startTrial : GoodIn wsX1_until wsX1_startTrial := goodIn_r _ [11, 1, 12, 13, 14, 15, 16, 17, 18, 63, 64, 65, 66, 67, 68, 69, 70] (by decide +kernel) (by decide +kernel)
set_option maxRecDepth 20000 in
theorem gX1_until_X1_startTrial : GoodIn wsX1_until (wsV RX1 117 RX1 yX1_startTrial wsX1_startTrial) := goodIn_app (goodIn_of _ (by decide +kernel)) ggX1_until_X1_startTrial
set_option maxRecDepth 20000 in
theorem ggX1_until_X0_fastestBeats : GoodIn wsX1_until wsX0_fastestBeats := goodIn_r _ [23, 24, 25, 26, 27, 28, 29, 30, 31, 22, 32, 33, 34, 35, 36, 37, 38, 39, 40, 41, 42, 43, 44, 45, 46, 47, 48, 49, 50, 51, 52, 53, 65, 66, 67, 68, 69, 70] (by decide +kernel) (by decide +kernel)
set_option maxRecDepth 20000 in
theorem gX1_until_X0_fastestBeats : GoodIn wsX1_until (wsV RX1 120 RX0 yX0_fastestBeats wsX0_fastestBeats) := goodIn_app (goodIn_of _ (by decide +kernel)) ggX1_until_X0_fastestBeats
set_option maxRecDepth 20000 in
theorem ggX1_until_X0_letPass : GoodIn wsX1_until wsX0_letPass := goodIn_r _ [57, 53, 58, 59, 60, 27, 61, 25, 26, 28, 62, 65, 66, 67, 68, 69, 70] (by decide +kernel) (by decide +kernel)
set_option maxRecDepth 20000 in
theorem gX1_until_X0_letPass : GoodIn wsX1_until (wsV RX1 90 RX0 yX0_letPass wsX0_letPass) := goodIn_app (goodIn_of _ (by decide +kernel)) ggX1_until_X0_letPass
theorem dX1_until_0 : decode cX1_until 0 = .ok (.iload_n 1, 1) := by decide +kernel
theorem dX1_until_1 : decode cX1_until 1 = .ok (.iconst 1, 1) := by decide +kernel
theorem dX1_until_2 : decode cX1_until 2 = .ok (.sipush 9999, 3) := by decide +kernel
theorem dX1_until_5 : decode cX1_until 5 = .ok (.invokestatic 23, 3) := by decide +kernel
theorem dX1_until_8 : decode cX1_until 8 = .ok (.aload_n 0, 1) := by decide +kernel
theorem dX1_until_9 : decode cX1_until 9 = .ok (.invokevirtual 117, 3) := by decide +kernel
theorem dX1_until_12 : decode cX1_until 12 = .ok (.iconst 0, 1) := by decide +kernel
theorem dX1_until_13 : decode cX1_until 13 = .ok (.istore_n 2, 1) := by decide +kernel
theorem dX1_until_14 : decode cX1_until 14 = .ok (.iload_n 2, 1) := by decide +kernel
theorem dX1_until_15 : decode cX1_until 15 = .ok (.sipush 200, 3) := by decide +kernel
theorem dX1_until_18 : decode cX1_until 18 = .ok (.if_icmp .gt 30, 3) := by decide +kernel
theorem dX1_until_21 : decode cX1_until 21 = .ok (.aload_n 0, 1) := by decide +kernel
theorem dX1_until_22 : decode cX1_until 22 = .ok (.getfield 16, 3) := by decide +kernel
theorem dX1_until_25 : decode cX1_until 25 = .ok (.invokevirtual 120, 3) := by decide +kernel
theorem dX1_until_28 : decode cX1_until 28 = .ok (.iload_n 1, 1) := by decide +kernel
theorem dX1_until_29 : decode cX1_until 29 = .ok (.if_icmp .lt 5, 3) := by decide +kernel
theorem dX1_until_32 : decode cX1_until 32 = .ok (.iload_n 2, 1) := by decide +kernel
theorem dX1_until_33 : decode cX1_until 33 = .ok (.ireturn, 1) := by decide +kernel
theorem dX1_until_34 : decode cX1_until 34 = .ok (.aload_n 0, 1) := by decide +kernel
theorem dX1_until_35 : decode cX1_until 35 = .ok (.getfield 16, 3) := by decide +kernel
theorem dX1_until_38 : decode cX1_until 38 = .ok (.iconst 1, 1) := by decide +kernel
theorem dX1_until_39 : decode cX1_until 39 = .ok (.invokevirtual 90, 3) := by decide +kernel
theorem dX1_until_42 : decode cX1_until 42 = .ok (.iinc 2 1, 3) := by decide +kernel
theorem dX1_until_45 : decode cX1_until 45 = .ok (.goto (-31), 3) := by decide +kernel
theorem dX1_until_48 : decode cX1_until 48 = .ok (.iconst (-1), 1) := by decide +kernel
theorem dX1_until_49 : decode cX1_until 49 = .ok (.ireturn, 1) := by decide +kernel
set_option maxRecDepth 20000 in
theorem ggX1_advise_X1_costWithWolf : GoodIn wsX1_advise wsX1_costWithWolf := goodIn_r _ [5, 6, 7, 8, 9, 4, 10, 11, 12, 13, 14, 15, 16, 17, 18, 19, 20, 21, 22, 23, 24, 25, 26, 27, 28, 29, 30, 31, 32, 33, 34, 35, 36, 37, 38, 39, 40, 41, 42, 43, 44, 45, 46, 47, 48, 49, 50, 51, 52, 53, 54, 55, 56, 57, 58] (by decide +kernel) (by decide +kernel)
set_option maxRecDepth 20000 in
theorem gX1_advise_X1_costWithWolf : GoodIn wsX1_advise (wsV RX1 123 RX1 yX1_costWithWolf wsX1_costWithWolf) := goodIn_app (goodIn_of _ (by decide +kernel)) ggX1_advise_X1_costWithWolf
theorem dX1_advise_0 : decode cX1_advise 0 = .ok (.iconst 0, 1) := by decide +kernel
theorem dX1_advise_1 : decode cX1_advise 1 = .ok (.istore_n 1, 1) := by decide +kernel
theorem dX1_advise_2 : decode cX1_advise 2 = .ok (.aload_n 0, 1) := by decide +kernel
theorem dX1_advise_3 : decode cX1_advise 3 = .ok (.iconst 0, 1) := by decide +kernel
theorem dX1_advise_4 : decode cX1_advise 4 = .ok (.invokevirtual 123, 3) := by decide +kernel
theorem dX1_advise_7 : decode cX1_advise 7 = .ok (.istore_n 2, 1) := by decide +kernel
theorem dX1_advise_8 : decode cX1_advise 8 = .ok (.iconst 1, 1) := by decide +kernel
theorem dX1_advise_9 : decode cX1_advise 9 = .ok (.istore_n 3, 1) := by decide +kernel
theorem dX1_advise_10 : decode cX1_advise 10 = .ok (.iload_n 3, 1) := by decide +kernel
theorem dX1_advise_11 : decode cX1_advise 11 = .ok (.bipush 12, 2) := by decide +kernel
theorem dX1_advise_13 : decode cX1_advise 13 = .ok (.if_icmp .ge 27, 3) := by decide +kernel
theorem dX1_advise_16 : decode cX1_advise 16 = .ok (.aload_n 0, 1) := by decide +kernel
theorem dX1_advise_17 : decode cX1_advise 17 = .ok (.iload_n 3, 1) := by decide +kernel
theorem dX1_advise_18 : decode cX1_advise 18 = .ok (.invokevirtual 123, 3) := by decide +kernel
theorem dX1_advise_21 : decode cX1_advise 21 = .ok (.istore 4, 2) := by decide +kernel
theorem dX1_advise_23 : decode cX1_advise 23 = .ok (.iload 4, 2) := by decide +kernel
theorem dX1_advise_25 : decode cX1_advise 25 = .ok (.iload_n 2, 1) := by decide +kernel
theorem dX1_advise_26 : decode cX1_advise 26 = .ok (.if_icmp .ge 8, 3) := by decide +kernel
theorem dX1_advise_29 : decode cX1_advise 29 = .ok (.iload 4, 2) := by decide +kernel
theorem dX1_advise_31 : decode cX1_advise 31 = .ok (.istore_n 2, 1) := by decide +kernel
theorem dX1_advise_32 : decode cX1_advise 32 = .ok (.iload_n 3, 1) := by decide +kernel
theorem dX1_advise_33 : decode cX1_advise 33 = .ok (.istore_n 1, 1) := by decide +kernel
theorem dX1_advise_34 : decode cX1_advise 34 = .ok (.iinc 3 1, 3) := by decide +kernel
theorem dX1_advise_37 : decode cX1_advise 37 = .ok (.goto (-27), 3) := by decide +kernel
theorem dX1_advise_40 : decode cX1_advise 40 = .ok (.iload_n 1, 1) := by decide +kernel
theorem dX1_advise_41 : decode cX1_advise 41 = .ok (.ireturn, 1) := by decide +kernel
set_option maxRecDepth 20000 in
theorem ggX1_temper_X1_checkRing : GoodIn wsX1_temper wsX1_checkRing := goodIn_ca (goodIn_r _ [4, 5, 6] (by decide +kernel) (by decide +kernel)) (goodIn_sub (fun _ h => List.mem_cons_of_mem _ (List.mem_append_left _ (List.mem_append_right _ h))) (by decide +kernel))
set_option maxRecDepth 20000 in
theorem gX1_temper_X1_checkRing : GoodIn wsX1_temper (va_wsS RX1 19 yX1_checkRing wsX1_checkRing) := goodIn_app (goodIn_of _ (by decide +kernel)) ggX1_temper_X1_checkRing
set_option maxRecDepth 20000 in
theorem ggX1_temper_X1_checkNotWolf : GoodIn wsX1_temper wsX1_checkNotWolf := goodIn_ca (goodIn_r _ [10, 11, 12, 13, 14, 66, 67, 68, 69, 70, 71, 72, 73] (by decide +kernel) (by decide +kernel)) (goodIn_sub (fun _ h => List.mem_cons_of_mem _ (List.mem_append_right _ h)) (by decide +kernel))
set_option maxRecDepth 20000 in
theorem gX1_temper_X1_checkNotWolf : GoodIn wsX1_temper (wsV RX1 27 RX1 yX1_checkNotWolf wsX1_checkNotWolf) := goodIn_app (goodIn_of _ (by decide +kernel)) ggX1_temper_X1_checkNotWolf
set_option maxRecDepth 20000 in
theorem ggX1_temper_X1_costWithNarrow : GoodIn wsX1_temper wsX1_costWithNarrow := goodIn_r _ [18, 19, 20, 21, 22, 3, 23, 24, 13, 25, 26, 27, 14, 28, 29, 30, 31, 32, 33, 34, 35, 36, 37, 38, 39, 40, 41, 42, 43, 44, 45, 46, 47, 48, 49, 50, 51, 52, 53, 54, 55, 56, 57, 58, 59, 60, 61, 62, 63, 64, 65, 66, 67, 68, 69, 70, 71, 72, 73] (by decide +kernel) (by decide +kernel)
set_option maxRecDepth 20000 in
theorem gX1_temper_X1_costWithNarrow : GoodIn wsX1_temper (wsV RX1 126 RX1 yX1_costWithNarrow wsX1_costWithNarrow) := goodIn_app (goodIn_of _ (by decide +kernel)) ggX1_temper_X1_costWithNarrow
theorem dX1_temper_0 : decode cX1_temper 0 = .ok (.iload_n 1, 1) := by decide +kernel
theorem dX1_temper_1 : decode cX1_temper 1 = .ok (.invokestatic 19, 3) := by decide +kernel
theorem dX1_temper_4 : decode cX1_temper 4 = .ok (.aload_n 0, 1) := by decide +kernel
theorem dX1_temper_5 : decode cX1_temper 5 = .ok (.iload_n 1, 1) := by decide +kernel
theorem dX1_temper_6 : decode cX1_temper 6 = .ok (.invokevirtual 27, 3) := by decide +kernel
theorem dX1_temper_9 : decode cX1_temper 9 = .ok (.bipush (-10), 2) := by decide +kernel
theorem dX1_temper_11 : decode cX1_temper 11 = .ok (.istore_n 2, 1) := by decide +kernel
theorem dX1_temper_12 : decode cX1_temper 12 = .ok (.aload_n 0, 1) := by decide +kernel
theorem dX1_temper_13 : decode cX1_temper 13 = .ok (.iload_n 1, 1) := by decide +kernel
theorem dX1_temper_14 : decode cX1_temper 14 = .ok (.bipush (-10), 2) := by decide +kernel
theorem dX1_temper_16 : decode cX1_temper 16 = .ok (.invokevirtual 126, 3) := by decide +kernel
theorem dX1_temper_19 : decode cX1_temper 19 = .ok (.istore_n 3, 1) := by decide +kernel
theorem dX1_temper_20 : decode cX1_temper 20 = .ok (.bipush (-9), 2) := by decide +kernel
theorem dX1_temper_22 : decode cX1_temper 22 = .ok (.istore 4, 2) := by decide +kernel
theorem dX1_temper_24 : decode cX1_temper 24 = .ok (.iload 4, 2) := by decide +kernel
theorem dX1_temper_26 : decode cX1_temper 26 = .ok (.bipush 20, 2) := by decide +kernel
theorem dX1_temper_28 : decode cX1_temper 28 = .ok (.if_icmp .gt 30, 3) := by decide +kernel
theorem dX1_temper_31 : decode cX1_temper 31 = .ok (.aload_n 0, 1) := by decide +kernel
theorem dX1_temper_32 : decode cX1_temper 32 = .ok (.iload_n 1, 1) := by decide +kernel
theorem dX1_temper_33 : decode cX1_temper 33 = .ok (.iload 4, 2) := by decide +kernel
theorem dX1_temper_35 : decode cX1_temper 35 = .ok (.invokevirtual 126, 3) := by decide +kernel
theorem dX1_temper_38 : decode cX1_temper 38 = .ok (.istore 5, 2) := by decide +kernel
theorem dX1_temper_40 : decode cX1_temper 40 = .ok (.iload 5, 2) := by decide +kernel
theorem dX1_temper_42 : decode cX1_temper 42 = .ok (.iload_n 3, 1) := by decide +kernel
theorem dX1_temper_43 : decode cX1_temper 43 = .ok (.if_icmp .ge 9, 3) := by decide +kernel
theorem dX1_temper_46 : decode cX1_temper 46 = .ok (.iload 5, 2) := by decide +kernel
theorem dX1_temper_48 : decode cX1_temper 48 = .ok (.istore_n 3, 1) := by decide +kernel
theorem dX1_temper_49 : decode cX1_temper 49 = .ok (.iload 4, 2) := by decide +kernel
theorem dX1_temper_51 : decode cX1_temper 51 = .ok (.istore_n 2, 1) := by decide +kernel
theorem dX1_temper_52 : decode cX1_temper 52 = .ok (.iinc 4 1, 3) := by decide +kernel
theorem dX1_temper_55 : decode cX1_temper 55 = .ok (.goto (-31), 3) := by decide +kernel
theorem dX1_temper_58 : decode cX1_temper 58 = .ok (.iload_n 2, 1) := by decide +kernel
theorem dX1_temper_59 : decode cX1_temper 59 = .ok (.ireturn, 1) := by decide +kernel
set_option maxRecDepth 20000 in
theorem ggX1_next_X0_cost : GoodIn wsX1_next wsX0_cost := goodIn_r _ [6, 7, 8, 9, 10, 5, 11, 12, 13, 14, 15, 16, 17, 18, 19, 20, 21, 22, 23, 24, 25, 26, 27, 28, 29, 57, 58, 59, 60, 61, 62] (by decide +kernel) (by decide +kernel)
set_option maxRecDepth 20000 in
theorem gX1_next_X0_cost : GoodIn wsX1_next (wsV RX1 129 RX0 yX0_cost wsX0_cost) := goodIn_app (goodIn_of _ (by decide +kernel)) ggX1_next_X0_cost
set_option maxRecDepth 20000 in
theorem ggX1_next_X0_canTune : GoodIn wsX1_next wsX0_canTune := goodIn_r _ [33, 34, 26, 27, 28, 29, 57, 58, 59, 60, 61, 62] (by decide +kernel) (by decide +kernel)
set_option maxRecDepth 20000 in
theorem gX1_next_X0_canTune : GoodIn wsX1_next (wsV RX1 58 RX0 yX0_canTune wsX0_canTune) := goodIn_app (goodIn_of _ (by decide +kernel)) ggX1_next_X0_canTune
set_option maxRecDepth 20000 in
theorem ggX1_next_X1_costWithTuned : GoodIn wsX1_next wsX1_costWithTuned := goodIn_r _ [39, 40, 41, 42, 43, 38, 44, 45, 1, 46, 47, 48, 49, 50, 51, 52, 53, 5, 54, 25, 26, 27, 28, 29, 2, 3, 4, 6, 7, 8, 9, 10, 11, 12, 13, 14, 15, 16, 17, 18, 19, 20, 21, 22, 23, 24, 55, 56, 57, 58, 59, 60, 61, 62] (by decide +kernel) (by decide +kernel)
set_option maxRecDepth 20000 in
theorem gX1_next_X1_costWithTuned : GoodIn wsX1_next (wsV RX1 132 RX1 yX1_costWithTuned wsX1_costWithTuned) := goodIn_app (goodIn_of _ (by decide +kernel)) ggX1_next_X1_costWithTuned
theorem dX1_next_0 : decode cX1_next 0 = .ok (.iconst (-1), 1) := by decide +kernel
theorem dX1_next_1 : decode cX1_next 1 = .ok (.istore_n 1, 1) := by decide +kernel
theorem dX1_next_2 : decode cX1_next 2 = .ok (.aload_n 0, 1) := by decide +kernel
theorem dX1_next_3 : decode cX1_next 3 = .ok (.getfield 10, 3) := by decide +kernel
theorem dX1_next_6 : decode cX1_next 6 = .ok (.invokevirtual 129, 3) := by decide +kernel
theorem dX1_next_9 : decode cX1_next 9 = .ok (.istore_n 2, 1) := by decide +kernel
theorem dX1_next_10 : decode cX1_next 10 = .ok (.iconst 0, 1) := by decide +kernel
theorem dX1_next_11 : decode cX1_next 11 = .ok (.istore_n 3, 1) := by decide +kernel
theorem dX1_next_12 : decode cX1_next 12 = .ok (.iload_n 3, 1) := by decide +kernel
theorem dX1_next_13 : decode cX1_next 13 = .ok (.bipush 12, 2) := by decide +kernel
theorem dX1_next_15 : decode cX1_next 15 = .ok (.if_icmp .ge 38, 3) := by decide +kernel
theorem dX1_next_18 : decode cX1_next 18 = .ok (.aload_n 0, 1) := by decide +kernel
theorem dX1_next_19 : decode cX1_next 19 = .ok (.getfield 10, 3) := by decide +kernel
theorem dX1_next_22 : decode cX1_next 22 = .ok (.iload_n 3, 1) := by decide +kernel
theorem dX1_next_23 : decode cX1_next 23 = .ok (.invokevirtual 58, 3) := by decide +kernel
theorem dX1_next_26 : decode cX1_next 26 = .ok (.ifCond .eq 21, 3) := by decide +kernel
theorem dX1_next_29 : decode cX1_next 29 = .ok (.aload_n 0, 1) := by decide +kernel
theorem dX1_next_30 : decode cX1_next 30 = .ok (.iload_n 3, 1) := by decide +kernel
theorem dX1_next_31 : decode cX1_next 31 = .ok (.invokevirtual 132, 3) := by decide +kernel
theorem dX1_next_34 : decode cX1_next 34 = .ok (.istore 4, 2) := by decide +kernel
theorem dX1_next_36 : decode cX1_next 36 = .ok (.iload 4, 2) := by decide +kernel
theorem dX1_next_38 : decode cX1_next 38 = .ok (.iload_n 2, 1) := by decide +kernel
theorem dX1_next_39 : decode cX1_next 39 = .ok (.if_icmp .ge 8, 3) := by decide +kernel
theorem dX1_next_42 : decode cX1_next 42 = .ok (.iload 4, 2) := by decide +kernel
theorem dX1_next_44 : decode cX1_next 44 = .ok (.istore_n 2, 1) := by decide +kernel
theorem dX1_next_45 : decode cX1_next 45 = .ok (.iload_n 3, 1) := by decide +kernel
theorem dX1_next_46 : decode cX1_next 46 = .ok (.istore_n 1, 1) := by decide +kernel
theorem dX1_next_47 : decode cX1_next 47 = .ok (.iinc 3 1, 3) := by decide +kernel
theorem dX1_next_50 : decode cX1_next 50 = .ok (.goto (-38), 3) := by decide +kernel
theorem dX1_next_53 : decode cX1_next 53 = .ok (.iload_n 1, 1) := by decide +kernel
theorem dX1_next_54 : decode cX1_next 54 = .ok (.ireturn, 1) := by decide +kernel
set_option maxRecDepth 20000 in
theorem ggX1_mean_X0_sourness : GoodIn wsX1_mean wsX0_sourness := goodIn_r _ [7, 8, 9, 10, 11, 12, 13, 14, 6, 15, 16, 17, 18, 19, 20, 21, 22, 23, 24, 25, 28, 29, 30, 31, 32, 33] (by decide +kernel) (by decide +kernel)
set_option maxRecDepth 20000 in
theorem gX1_mean_X0_sourness : GoodIn wsX1_mean (wsV RX1 135 RX0 yX0_sourness wsX0_sourness) := goodIn_app (goodIn_of _ (by decide +kernel)) ggX1_mean_X0_sourness
theorem dX1_mean_0 : decode cX1_mean 0 = .ok (.iconst 0, 1) := by decide +kernel
theorem dX1_mean_1 : decode cX1_mean 1 = .ok (.istore_n 1, 1) := by decide +kernel
theorem dX1_mean_2 : decode cX1_mean 2 = .ok (.iconst 0, 1) := by decide +kernel
theorem dX1_mean_3 : decode cX1_mean 3 = .ok (.istore_n 2, 1) := by decide +kernel
theorem dX1_mean_4 : decode cX1_mean 4 = .ok (.iload_n 2, 1) := by decide +kernel
theorem dX1_mean_5 : decode cX1_mean 5 = .ok (.bipush 12, 2) := by decide +kernel
theorem dX1_mean_7 : decode cX1_mean 7 = .ok (.if_icmp .ge 20, 3) := by decide +kernel
theorem dX1_mean_10 : decode cX1_mean 10 = .ok (.iload_n 1, 1) := by decide +kernel
theorem dX1_mean_11 : decode cX1_mean 11 = .ok (.aload_n 0, 1) := by decide +kernel
theorem dX1_mean_12 : decode cX1_mean 12 = .ok (.getfield 10, 3) := by decide +kernel
theorem dX1_mean_15 : decode cX1_mean 15 = .ok (.iload_n 2, 1) := by decide +kernel
theorem dX1_mean_16 : decode cX1_mean 16 = .ok (.invokevirtual 135, 3) := by decide +kernel
theorem dX1_mean_19 : decode cX1_mean 19 = .ok (.iadd, 1) := by decide +kernel
theorem dX1_mean_20 : decode cX1_mean 20 = .ok (.istore_n 1, 1) := by decide +kernel
theorem dX1_mean_21 : decode cX1_mean 21 = .ok (.iinc 2 1, 3) := by decide +kernel
theorem dX1_mean_24 : decode cX1_mean 24 = .ok (.goto (-20), 3) := by decide +kernel
theorem dX1_mean_27 : decode cX1_mean 27 = .ok (.iload_n 1, 1) := by decide +kernel
theorem dX1_mean_28 : decode cX1_mean 28 = .ok (.i2d, 1) := by decide +kernel
theorem dX1_mean_29 : decode cX1_mean 29 = .ok (.ldc2_w 138, 3) := by decide +kernel
theorem dX1_mean_32 : decode cX1_mean 32 = .ok (.ddiv, 1) := by decide +kernel
theorem dX1_mean_33 : decode cX1_mean 33 = .ok (.dreturn, 1) := by decide +kernel
set_option maxRecDepth 20000 in
theorem ggX1_digest_X0_tellCount : GoodIn wsX1_digest wsX0_tellCount := goodIn_r _ [8, 9, 10, 11, 12, 13, 7, 14, 15, 16, 17, 18, 19, 20, 21, 22, 23, 24, 25, 26, 27, 28, 29, 30, 31, 32, 33, 34, 35, 36, 37, 38, 39, 40, 41, 42, 43, 44, 45, 46, 47, 48, 49, 50, 51, 52, 53, 54, 55, 56, 57, 58, 59, 60, 61, 62, 63, 64, 65, 66, 67, 68, 112, 113, 114, 115, 116, 117] (by decide +kernel) (by decide +kernel)
set_option maxRecDepth 20000 in
theorem gX1_digest_X0_tellCount : GoodIn wsX1_digest (wsV RX1 114 RX0 yX0_tellCount wsX0_tellCount) := goodIn_app (goodIn_of _ (by decide +kernel)) ggX1_digest_X0_tellCount
set_option maxRecDepth 20000 in
theorem ggX1_digest_X0_tellFifth : GoodIn wsX1_digest wsX0_tellFifth := goodIn_r _ [72, 32, 10, 34, 35, 36, 37, 28, 29, 30, 7, 31, 33, 73, 74, 75, 76, 57, 58, 59, 60, 20, 21, 22, 23, 61, 62, 63, 64, 65, 66, 67, 68, 112, 113, 114, 115, 116, 117] (by decide +kernel) (by decide +kernel)
set_option maxRecDepth 20000 in
theorem gX1_digest_X0_tellFifth : GoodIn wsX1_digest (wsV RX1 99 RX0 yX0_tellFifth wsX0_tellFifth) := goodIn_app (goodIn_of _ (by decide +kernel)) ggX1_digest_X0_tellFifth
set_option maxRecDepth 20000 in
theorem ggX1_digest_X0_tellMajor : GoodIn wsX1_digest wsX0_tellMajor := goodIn_r _ [80, 24, 25, 26, 7, 27, 28, 29, 30, 31, 32, 33, 34, 35, 36, 37, 81, 82, 83, 84, 20, 21, 22, 23, 61, 62, 63, 64, 65, 66, 67, 68, 112, 113, 114, 115, 116, 117] (by decide +kernel) (by decide +kernel)
set_option maxRecDepth 20000 in
theorem gX1_digest_X0_tellMajor : GoodIn wsX1_digest (wsV RX1 102 RX0 yX0_tellMajor wsX0_tellMajor) := goodIn_app (goodIn_of _ (by decide +kernel)) ggX1_digest_X0_tellMajor
set_option maxRecDepth 20000 in
theorem ggX1_digest_X0_tellMinor : GoodIn wsX1_digest wsX0_tellMinor := goodIn_r _ [88, 89, 90, 91, 7, 92, 28, 29, 30, 31, 32, 33, 34, 35, 36, 37, 112, 113, 114, 115, 116, 117] (by decide +kernel) (by decide +kernel)
set_option maxRecDepth 20000 in
theorem gX1_digest_X0_tellMinor : GoodIn wsX1_digest (wsV RX1 105 RX0 yX0_tellMinor wsX0_tellMinor) := goodIn_app (goodIn_of _ (by decide +kernel)) ggX1_digest_X0_tellMinor
set_option maxRecDepth 20000 in
theorem ggX1_digest_X0_tellNote : GoodIn wsX1_digest wsX0_tellNote := goodIn_r _ [96, 33, 97, 34, 35, 36, 37, 65, 66, 67, 7, 68, 61, 62, 63, 64, 98, 99, 100, 101, 73, 74, 75, 76, 28, 29, 30, 31, 32, 112, 113, 114, 115, 116, 117] (by decide +kernel) (by decide +kernel)
set_option maxRecDepth 20000 in
theorem gX1_digest_X0_tellNote : GoodIn wsX1_digest (wsV RX1 108 RX0 yX0_tellNote wsX0_tellNote) := goodIn_app (goodIn_of _ (by decide +kernel)) ggX1_digest_X0_tellNote
set_option maxRecDepth 20000 in
theorem ggX1_digest_X0_tellKey : GoodIn wsX1_digest wsX0_tellKey := goodIn_r _ [105, 15, 34, 35, 36, 37, 16, 17, 18, 7, 19, 20, 21, 22, 23, 24, 25, 26, 27, 28, 29, 30, 31, 32, 33, 106, 107, 108, 109, 112, 113, 114, 115, 116, 117] (by decide +kernel) (by decide +kernel)
set_option maxRecDepth 20000 in
theorem gX1_digest_X0_tellKey : GoodIn wsX1_digest (wsV RX1 111 RX0 yX0_tellKey wsX0_tellKey) := goodIn_app (goodIn_of _ (by decide +kernel)) ggX1_digest_X0_tellKey
theorem dX1_digest_0 : decode cX1_digest 0 = .ok (.ldc2_w 140, 3) := by decide +kernel
theorem dX1_digest_3 : decode cX1_digest 3 = .ok (.lstore_n 1, 1) := by decide +kernel
theorem dX1_digest_4 : decode cX1_digest 4 = .ok (.iconst 0, 1) := by decide +kernel
theorem dX1_digest_5 : decode cX1_digest 5 = .ok (.istore_n 3, 1) := by decide +kernel
theorem dX1_digest_6 : decode cX1_digest 6 = .ok (.iload_n 3, 1) := by decide +kernel
theorem dX1_digest_7 : decode cX1_digest 7 = .ok (.bipush 7, 2) := by decide +kernel
theorem dX1_digest_9 : decode cX1_digest 9 = .ok (.if_icmp .ge 25, 3) := by decide +kernel
theorem dX1_digest_12 : decode cX1_digest 12 = .ok (.lload_n 1, 1) := by decide +kernel
theorem dX1_digest_13 : decode cX1_digest 13 = .ok (.ldc2_w 142, 3) := by decide +kernel
theorem dX1_digest_16 : decode cX1_digest 16 = .ok (.lmul, 1) := by decide +kernel
theorem dX1_digest_17 : decode cX1_digest 17 = .ok (.aload_n 0, 1) := by decide +kernel
theorem dX1_digest_18 : decode cX1_digest 18 = .ok (.getfield 10, 3) := by decide +kernel
theorem dX1_digest_21 : decode cX1_digest 21 = .ok (.iload_n 3, 1) := by decide +kernel
theorem dX1_digest_22 : decode cX1_digest 22 = .ok (.invokevirtual 114, 3) := by decide +kernel
theorem dX1_digest_25 : decode cX1_digest 25 = .ok (.i2l, 1) := by decide +kernel
theorem dX1_digest_26 : decode cX1_digest 26 = .ok (.ladd, 1) := by decide +kernel
theorem dX1_digest_27 : decode cX1_digest 27 = .ok (.lstore_n 1, 1) := by decide +kernel
theorem dX1_digest_28 : decode cX1_digest 28 = .ok (.iinc 3 1, 3) := by decide +kernel
theorem dX1_digest_31 : decode cX1_digest 31 = .ok (.goto (-25), 3) := by decide +kernel
theorem dX1_digest_34 : decode cX1_digest 34 = .ok (.iconst 0, 1) := by decide +kernel
theorem dX1_digest_35 : decode cX1_digest 35 = .ok (.istore_n 3, 1) := by decide +kernel
theorem dX1_digest_36 : decode cX1_digest 36 = .ok (.iload_n 3, 1) := by decide +kernel
theorem dX1_digest_37 : decode cX1_digest 37 = .ok (.bipush 12, 2) := by decide +kernel
theorem dX1_digest_39 : decode cX1_digest 39 = .ok (.if_icmp .ge 174, 3) := by decide +kernel
theorem dX1_digest_42 : decode cX1_digest 42 = .ok (.iconst 0, 1) := by decide +kernel
theorem dX1_digest_43 : decode cX1_digest 43 = .ok (.istore 4, 2) := by decide +kernel
theorem dX1_digest_45 : decode cX1_digest 45 = .ok (.iload 4, 2) := by decide +kernel
theorem dX1_digest_47 : decode cX1_digest 47 = .ok (.iconst 5, 1) := by decide +kernel
theorem dX1_digest_48 : decode cX1_digest 48 = .ok (.if_icmp .ge 27, 3) := by decide +kernel
theorem dX1_digest_51 : decode cX1_digest 51 = .ok (.lload_n 1, 1) := by decide +kernel
theorem dX1_digest_52 : decode cX1_digest 52 = .ok (.ldc2_w 142, 3) := by decide +kernel
theorem dX1_digest_55 : decode cX1_digest 55 = .ok (.lmul, 1) := by decide +kernel
theorem dX1_digest_56 : decode cX1_digest 56 = .ok (.aload_n 0, 1) := by decide +kernel
theorem dX1_digest_57 : decode cX1_digest 57 = .ok (.getfield 10, 3) := by decide +kernel
theorem dX1_digest_60 : decode cX1_digest 60 = .ok (.iload_n 3, 1) := by decide +kernel
theorem dX1_digest_61 : decode cX1_digest 61 = .ok (.iload 4, 2) := by decide +kernel
theorem dX1_digest_63 : decode cX1_digest 63 = .ok (.invokevirtual 99, 3) := by decide +kernel
theorem dX1_digest_66 : decode cX1_digest 66 = .ok (.i2l, 1) := by decide +kernel
theorem dX1_digest_67 : decode cX1_digest 67 = .ok (.ladd, 1) := by decide +kernel
theorem dX1_digest_68 : decode cX1_digest 68 = .ok (.lstore_n 1, 1) := by decide +kernel
theorem dX1_digest_69 : decode cX1_digest 69 = .ok (.iinc 4 1, 3) := by decide +kernel
theorem dX1_digest_72 : decode cX1_digest 72 = .ok (.goto (-27), 3) := by decide +kernel
theorem dX1_digest_75 : decode cX1_digest 75 = .ok (.iconst 0, 1) := by decide +kernel
theorem dX1_digest_76 : decode cX1_digest 76 = .ok (.istore 4, 2) := by decide +kernel
theorem dX1_digest_78 : decode cX1_digest 78 = .ok (.iload 4, 2) := by decide +kernel
theorem dX1_digest_80 : decode cX1_digest 80 = .ok (.iconst 3, 1) := by decide +kernel
theorem dX1_digest_81 : decode cX1_digest 81 = .ok (.if_icmp .ge 27, 3) := by decide +kernel
theorem dX1_digest_84 : decode cX1_digest 84 = .ok (.lload_n 1, 1) := by decide +kernel
theorem dX1_digest_85 : decode cX1_digest 85 = .ok (.ldc2_w 142, 3) := by decide +kernel
theorem dX1_digest_88 : decode cX1_digest 88 = .ok (.lmul, 1) := by decide +kernel
theorem dX1_digest_89 : decode cX1_digest 89 = .ok (.aload_n 0, 1) := by decide +kernel
theorem dX1_digest_90 : decode cX1_digest 90 = .ok (.getfield 10, 3) := by decide +kernel
theorem dX1_digest_93 : decode cX1_digest 93 = .ok (.iload_n 3, 1) := by decide +kernel
theorem dX1_digest_94 : decode cX1_digest 94 = .ok (.iload 4, 2) := by decide +kernel
theorem dX1_digest_96 : decode cX1_digest 96 = .ok (.invokevirtual 102, 3) := by decide +kernel
theorem dX1_digest_99 : decode cX1_digest 99 = .ok (.i2l, 1) := by decide +kernel
theorem dX1_digest_100 : decode cX1_digest 100 = .ok (.ladd, 1) := by decide +kernel
theorem dX1_digest_101 : decode cX1_digest 101 = .ok (.lstore_n 1, 1) := by decide +kernel
theorem dX1_digest_102 : decode cX1_digest 102 = .ok (.iinc 4 1, 3) := by decide +kernel
theorem dX1_digest_105 : decode cX1_digest 105 = .ok (.goto (-27), 3) := by decide +kernel
theorem dX1_digest_108 : decode cX1_digest 108 = .ok (.iconst 0, 1) := by decide +kernel
theorem dX1_digest_109 : decode cX1_digest 109 = .ok (.istore 4, 2) := by decide +kernel
theorem dX1_digest_111 : decode cX1_digest 111 = .ok (.iload 4, 2) := by decide +kernel
theorem dX1_digest_113 : decode cX1_digest 113 = .ok (.iconst 2, 1) := by decide +kernel
theorem dX1_digest_114 : decode cX1_digest 114 = .ok (.if_icmp .ge 27, 3) := by decide +kernel
theorem dX1_digest_117 : decode cX1_digest 117 = .ok (.lload_n 1, 1) := by decide +kernel
theorem dX1_digest_118 : decode cX1_digest 118 = .ok (.ldc2_w 142, 3) := by decide +kernel
theorem dX1_digest_121 : decode cX1_digest 121 = .ok (.lmul, 1) := by decide +kernel
theorem dX1_digest_122 : decode cX1_digest 122 = .ok (.aload_n 0, 1) := by decide +kernel
theorem dX1_digest_123 : decode cX1_digest 123 = .ok (.getfield 10, 3) := by decide +kernel
theorem dX1_digest_126 : decode cX1_digest 126 = .ok (.iload_n 3, 1) := by decide +kernel
theorem dX1_digest_127 : decode cX1_digest 127 = .ok (.iload 4, 2) := by decide +kernel
theorem dX1_digest_129 : decode cX1_digest 129 = .ok (.invokevirtual 105, 3) := by decide +kernel
theorem dX1_digest_132 : decode cX1_digest 132 = .ok (.i2l, 1) := by decide +kernel
theorem dX1_digest_133 : decode cX1_digest 133 = .ok (.ladd, 1) := by decide +kernel
theorem dX1_digest_134 : decode cX1_digest 134 = .ok (.lstore_n 1, 1) := by decide +kernel
theorem dX1_digest_135 : decode cX1_digest 135 = .ok (.iinc 4 1, 3) := by decide +kernel
theorem dX1_digest_138 : decode cX1_digest 138 = .ok (.goto (-27), 3) := by decide +kernel
theorem dX1_digest_141 : decode cX1_digest 141 = .ok (.iconst 0, 1) := by decide +kernel
theorem dX1_digest_142 : decode cX1_digest 142 = .ok (.istore 4, 2) := by decide +kernel
theorem dX1_digest_144 : decode cX1_digest 144 = .ok (.iload 4, 2) := by decide +kernel
theorem dX1_digest_146 : decode cX1_digest 146 = .ok (.iconst 5, 1) := by decide +kernel
theorem dX1_digest_147 : decode cX1_digest 147 = .ok (.if_icmp .ge 27, 3) := by decide +kernel
theorem dX1_digest_150 : decode cX1_digest 150 = .ok (.lload_n 1, 1) := by decide +kernel
theorem dX1_digest_151 : decode cX1_digest 151 = .ok (.ldc2_w 142, 3) := by decide +kernel
theorem dX1_digest_154 : decode cX1_digest 154 = .ok (.lmul, 1) := by decide +kernel
theorem dX1_digest_155 : decode cX1_digest 155 = .ok (.aload_n 0, 1) := by decide +kernel
theorem dX1_digest_156 : decode cX1_digest 156 = .ok (.getfield 10, 3) := by decide +kernel
theorem dX1_digest_159 : decode cX1_digest 159 = .ok (.iload_n 3, 1) := by decide +kernel
theorem dX1_digest_160 : decode cX1_digest 160 = .ok (.iload 4, 2) := by decide +kernel
theorem dX1_digest_162 : decode cX1_digest 162 = .ok (.invokevirtual 108, 3) := by decide +kernel
theorem dX1_digest_165 : decode cX1_digest 165 = .ok (.i2l, 1) := by decide +kernel
theorem dX1_digest_166 : decode cX1_digest 166 = .ok (.ladd, 1) := by decide +kernel
theorem dX1_digest_167 : decode cX1_digest 167 = .ok (.lstore_n 1, 1) := by decide +kernel
theorem dX1_digest_168 : decode cX1_digest 168 = .ok (.iinc 4 1, 3) := by decide +kernel
theorem dX1_digest_171 : decode cX1_digest 171 = .ok (.goto (-27), 3) := by decide +kernel
theorem dX1_digest_174 : decode cX1_digest 174 = .ok (.iconst 0, 1) := by decide +kernel
theorem dX1_digest_175 : decode cX1_digest 175 = .ok (.istore 4, 2) := by decide +kernel
theorem dX1_digest_177 : decode cX1_digest 177 = .ok (.iload 4, 2) := by decide +kernel
theorem dX1_digest_179 : decode cX1_digest 179 = .ok (.iconst 4, 1) := by decide +kernel
theorem dX1_digest_180 : decode cX1_digest 180 = .ok (.if_icmp .ge 27, 3) := by decide +kernel
theorem dX1_digest_183 : decode cX1_digest 183 = .ok (.lload_n 1, 1) := by decide +kernel
theorem dX1_digest_184 : decode cX1_digest 184 = .ok (.ldc2_w 142, 3) := by decide +kernel
theorem dX1_digest_187 : decode cX1_digest 187 = .ok (.lmul, 1) := by decide +kernel
theorem dX1_digest_188 : decode cX1_digest 188 = .ok (.aload_n 0, 1) := by decide +kernel
theorem dX1_digest_189 : decode cX1_digest 189 = .ok (.getfield 10, 3) := by decide +kernel
theorem dX1_digest_192 : decode cX1_digest 192 = .ok (.iload_n 3, 1) := by decide +kernel
theorem dX1_digest_193 : decode cX1_digest 193 = .ok (.iload 4, 2) := by decide +kernel
theorem dX1_digest_195 : decode cX1_digest 195 = .ok (.invokevirtual 111, 3) := by decide +kernel
theorem dX1_digest_198 : decode cX1_digest 198 = .ok (.i2l, 1) := by decide +kernel
theorem dX1_digest_199 : decode cX1_digest 199 = .ok (.ladd, 1) := by decide +kernel
theorem dX1_digest_200 : decode cX1_digest 200 = .ok (.lstore_n 1, 1) := by decide +kernel
theorem dX1_digest_201 : decode cX1_digest 201 = .ok (.iinc 4 1, 3) := by decide +kernel
theorem dX1_digest_204 : decode cX1_digest 204 = .ok (.goto (-27), 3) := by decide +kernel
theorem dX1_digest_207 : decode cX1_digest 207 = .ok (.iinc 3 1, 3) := by decide +kernel
theorem dX1_digest_210 : decode cX1_digest 210 = .ok (.goto (-174), 3) := by decide +kernel
theorem dX1_digest_213 : decode cX1_digest 213 = .ok (.lload_n 1, 1) := by decide +kernel
theorem dX1_digest_214 : decode cX1_digest 214 = .ok (.lreturn, 1) := by decide +kernel
theorem dX1_checkRing_0 : decode cX1_checkRing 0 = .ok (.iload_n 0, 1) := by decide +kernel
theorem dX1_checkRing_1 : decode cX1_checkRing 1 = .ok (.ifCond .lt 9, 3) := by decide +kernel
theorem dX1_checkRing_4 : decode cX1_checkRing 4 = .ok (.iload_n 0, 1) := by decide +kernel
theorem dX1_checkRing_5 : decode cX1_checkRing 5 = .ok (.bipush 12, 2) := by decide +kernel
theorem dX1_checkRing_7 : decode cX1_checkRing 7 = .ok (.if_icmp .lt 13, 3) := by decide +kernel
theorem dX1_checkRing_10 : decode cX1_checkRing 10 = .ok (.new 144, 3) := by decide +kernel
theorem dX1_checkRing_13 : decode cX1_checkRing 13 = .ok (.dup, 1) := by decide +kernel
theorem dX1_checkRing_14 : decode cX1_checkRing 14 = .ok (.ldc 146, 2) := by decide +kernel
theorem dX1_checkRing_16 : decode cX1_checkRing 16 = .ok (.invokespecial 148, 3) := by decide +kernel
theorem dX1_checkRing_19 : decode cX1_checkRing 19 = .ok (.athrow, 1) := by decide +kernel
theorem dX1_checkRing_20 : decode cX1_checkRing 20 = .ok (.return_, 1) := by decide +kernel
theorem dX1_checkWhat_0 : decode cX1_checkWhat 0 = .ok (.iload_n 0, 1) := by decide +kernel
theorem dX1_checkWhat_1 : decode cX1_checkWhat 1 = .ok (.iload_n 1, 1) := by decide +kernel
theorem dX1_checkWhat_2 : decode cX1_checkWhat 2 = .ok (.if_icmp .lt 8, 3) := by decide +kernel
theorem dX1_checkWhat_5 : decode cX1_checkWhat 5 = .ok (.iload_n 0, 1) := by decide +kernel
theorem dX1_checkWhat_6 : decode cX1_checkWhat 6 = .ok (.iload_n 2, 1) := by decide +kernel
theorem dX1_checkWhat_7 : decode cX1_checkWhat 7 = .ok (.if_icmp .lt 13, 3) := by decide +kernel
theorem dX1_checkWhat_10 : decode cX1_checkWhat 10 = .ok (.new 144, 3) := by decide +kernel
theorem dX1_checkWhat_13 : decode cX1_checkWhat 13 = .ok (.dup, 1) := by decide +kernel
theorem dX1_checkWhat_14 : decode cX1_checkWhat 14 = .ok (.ldc 149, 2) := by decide +kernel
theorem dX1_checkWhat_16 : decode cX1_checkWhat 16 = .ok (.invokespecial 148, 3) := by decide +kernel
theorem dX1_checkWhat_19 : decode cX1_checkWhat 19 = .ok (.athrow, 1) := by decide +kernel
theorem dX1_checkWhat_20 : decode cX1_checkWhat 20 = .ok (.return_, 1) := by decide +kernel
theorem dX1_checkArgument_0 : decode cX1_checkArgument 0 = .ok (.iload_n 0, 1) := by decide +kernel
theorem dX1_checkArgument_1 : decode cX1_checkArgument 1 = .ok (.iload_n 1, 1) := by decide +kernel
theorem dX1_checkArgument_2 : decode cX1_checkArgument 2 = .ok (.if_icmp .lt 8, 3) := by decide +kernel
theorem dX1_checkArgument_5 : decode cX1_checkArgument 5 = .ok (.iload_n 0, 1) := by decide +kernel
theorem dX1_checkArgument_6 : decode cX1_checkArgument 6 = .ok (.iload_n 2, 1) := by decide +kernel
theorem dX1_checkArgument_7 : decode cX1_checkArgument 7 = .ok (.if_icmp .le 13, 3) := by decide +kernel
theorem dX1_checkArgument_10 : decode cX1_checkArgument 10 = .ok (.new 151, 3) := by decide +kernel
theorem dX1_checkArgument_13 : decode cX1_checkArgument 13 = .ok (.dup, 1) := by decide +kernel
theorem dX1_checkArgument_14 : decode cX1_checkArgument 14 = .ok (.ldc 153, 2) := by decide +kernel
theorem dX1_checkArgument_16 : decode cX1_checkArgument 16 = .ok (.invokespecial 155, 3) := by decide +kernel
theorem dX1_checkArgument_19 : decode cX1_checkArgument 19 = .ok (.athrow, 1) := by decide +kernel
theorem dX1_checkArgument_20 : decode cX1_checkArgument 20 = .ok (.return_, 1) := by decide +kernel
theorem dX1_checkNotWolf_0 : decode cX1_checkNotWolf 0 = .ok (.iload_n 1, 1) := by decide +kernel
theorem dX1_checkNotWolf_1 : decode cX1_checkNotWolf 1 = .ok (.aload_n 0, 1) := by decide +kernel
theorem dX1_checkNotWolf_2 : decode cX1_checkNotWolf 2 = .ok (.getfield 10, 3) := by decide +kernel
theorem dX1_checkNotWolf_5 : decode cX1_checkNotWolf 5 = .ok (.getfield 38, 3) := by decide +kernel
theorem dX1_checkNotWolf_8 : decode cX1_checkNotWolf 8 = .ok (.if_icmp .ne 13, 3) := by decide +kernel
theorem dX1_checkNotWolf_11 : decode cX1_checkNotWolf 11 = .ok (.new 62, 3) := by decide +kernel
theorem dX1_checkNotWolf_14 : decode cX1_checkNotWolf 14 = .ok (.dup, 1) := by decide +kernel
theorem dX1_checkNotWolf_15 : decode cX1_checkNotWolf 15 = .ok (.ldc 156, 2) := by decide +kernel
theorem dX1_checkNotWolf_17 : decode cX1_checkNotWolf 17 = .ok (.invokespecial 66, 3) := by decide +kernel
theorem dX1_checkNotWolf_20 : decode cX1_checkNotWolf 20 = .ok (.athrow, 1) := by decide +kernel
theorem dX1_checkNotWolf_21 : decode cX1_checkNotWolf 21 = .ok (.return_, 1) := by decide +kernel
theorem dX1_startTrial_0 : decode cX1_startTrial 0 = .ok (.iconst 0, 1) := by decide +kernel
theorem dX1_startTrial_1 : decode cX1_startTrial 1 = .ok (.istore_n 1, 1) := by decide +kernel
theorem dX1_startTrial_2 : decode cX1_startTrial 2 = .ok (.iload_n 1, 1) := by decide +kernel
theorem dX1_startTrial_3 : decode cX1_startTrial 3 = .ok (.bipush 12, 2) := by decide +kernel
theorem dX1_startTrial_5 : decode cX1_startTrial 5 = .ok (.if_icmp .ge 81, 3) := by decide +kernel
theorem dX1_startTrial_8 : decode cX1_startTrial 8 = .ok (.aload_n 0, 1) := by decide +kernel
theorem dX1_startTrial_9 : decode cX1_startTrial 9 = .ok (.getfield 16, 3) := by decide +kernel
theorem dX1_startTrial_12 : decode cX1_startTrial 12 = .ok (.getfield 30, 3) := by decide +kernel
theorem dX1_startTrial_15 : decode cX1_startTrial 15 = .ok (.iload_n 1, 1) := by decide +kernel
theorem dX1_startTrial_16 : decode cX1_startTrial 16 = .ok (.aload_n 0, 1) := by decide +kernel
theorem dX1_startTrial_17 : decode cX1_startTrial 17 = .ok (.getfield 10, 3) := by decide +kernel
theorem dX1_startTrial_20 : decode cX1_startTrial 20 = .ok (.getfield 30, 3) := by decide +kernel
theorem dX1_startTrial_23 : decode cX1_startTrial 23 = .ok (.iload_n 1, 1) := by decide +kernel
theorem dX1_startTrial_24 : decode cX1_startTrial 24 = .ok (.iaload, 1) := by decide +kernel
theorem dX1_startTrial_25 : decode cX1_startTrial 25 = .ok (.iastore, 1) := by decide +kernel
theorem dX1_startTrial_26 : decode cX1_startTrial 26 = .ok (.aload_n 0, 1) := by decide +kernel
theorem dX1_startTrial_27 : decode cX1_startTrial 27 = .ok (.getfield 16, 3) := by decide +kernel
theorem dX1_startTrial_30 : decode cX1_startTrial 30 = .ok (.getfield 81, 3) := by decide +kernel
theorem dX1_startTrial_33 : decode cX1_startTrial 33 = .ok (.iload_n 1, 1) := by decide +kernel
theorem dX1_startTrial_34 : decode cX1_startTrial 34 = .ok (.aload_n 0, 1) := by decide +kernel
theorem dX1_startTrial_35 : decode cX1_startTrial 35 = .ok (.getfield 10, 3) := by decide +kernel
theorem dX1_startTrial_38 : decode cX1_startTrial 38 = .ok (.getfield 81, 3) := by decide +kernel
theorem dX1_startTrial_41 : decode cX1_startTrial 41 = .ok (.iload_n 1, 1) := by decide +kernel
theorem dX1_startTrial_42 : decode cX1_startTrial 42 = .ok (.iaload, 1) := by decide +kernel
theorem dX1_startTrial_43 : decode cX1_startTrial 43 = .ok (.iastore, 1) := by decide +kernel
theorem dX1_startTrial_44 : decode cX1_startTrial 44 = .ok (.aload_n 0, 1) := by decide +kernel
theorem dX1_startTrial_45 : decode cX1_startTrial 45 = .ok (.getfield 16, 3) := by decide +kernel
theorem dX1_startTrial_48 : decode cX1_startTrial 48 = .ok (.getfield 55, 3) := by decide +kernel
theorem dX1_startTrial_51 : decode cX1_startTrial 51 = .ok (.iload_n 1, 1) := by decide +kernel
theorem dX1_startTrial_52 : decode cX1_startTrial 52 = .ok (.aload_n 0, 1) := by decide +kernel
theorem dX1_startTrial_53 : decode cX1_startTrial 53 = .ok (.getfield 10, 3) := by decide +kernel
theorem dX1_startTrial_56 : decode cX1_startTrial 56 = .ok (.getfield 55, 3) := by decide +kernel
theorem dX1_startTrial_59 : decode cX1_startTrial 59 = .ok (.iload_n 1, 1) := by decide +kernel
theorem dX1_startTrial_60 : decode cX1_startTrial 60 = .ok (.iaload, 1) := by decide +kernel
theorem dX1_startTrial_61 : decode cX1_startTrial 61 = .ok (.iastore, 1) := by decide +kernel
theorem dX1_startTrial_62 : decode cX1_startTrial 62 = .ok (.aload_n 0, 1) := by decide +kernel
theorem dX1_startTrial_63 : decode cX1_startTrial 63 = .ok (.getfield 16, 3) := by decide +kernel
theorem dX1_startTrial_66 : decode cX1_startTrial 66 = .ok (.getfield 52, 3) := by decide +kernel
theorem dX1_startTrial_69 : decode cX1_startTrial 69 = .ok (.iload_n 1, 1) := by decide +kernel
theorem dX1_startTrial_70 : decode cX1_startTrial 70 = .ok (.aload_n 0, 1) := by decide +kernel
theorem dX1_startTrial_71 : decode cX1_startTrial 71 = .ok (.getfield 10, 3) := by decide +kernel
theorem dX1_startTrial_74 : decode cX1_startTrial 74 = .ok (.getfield 52, 3) := by decide +kernel
theorem dX1_startTrial_77 : decode cX1_startTrial 77 = .ok (.iload_n 1, 1) := by decide +kernel
theorem dX1_startTrial_78 : decode cX1_startTrial 78 = .ok (.iaload, 1) := by decide +kernel
theorem dX1_startTrial_79 : decode cX1_startTrial 79 = .ok (.iastore, 1) := by decide +kernel
theorem dX1_startTrial_80 : decode cX1_startTrial 80 = .ok (.iinc 1 1, 3) := by decide +kernel
theorem dX1_startTrial_83 : decode cX1_startTrial 83 = .ok (.goto (-81), 3) := by decide +kernel
theorem dX1_startTrial_86 : decode cX1_startTrial 86 = .ok (.aload_n 0, 1) := by decide +kernel
theorem dX1_startTrial_87 : decode cX1_startTrial 87 = .ok (.getfield 16, 3) := by decide +kernel
theorem dX1_startTrial_90 : decode cX1_startTrial 90 = .ok (.aload_n 0, 1) := by decide +kernel
theorem dX1_startTrial_91 : decode cX1_startTrial 91 = .ok (.getfield 10, 3) := by decide +kernel
theorem dX1_startTrial_94 : decode cX1_startTrial 94 = .ok (.getfield 38, 3) := by decide +kernel
theorem dX1_startTrial_97 : decode cX1_startTrial 97 = .ok (.putfield 38, 3) := by decide +kernel
theorem dX1_startTrial_100 : decode cX1_startTrial 100 = .ok (.aload_n 0, 1) := by decide +kernel
theorem dX1_startTrial_101 : decode cX1_startTrial 101 = .ok (.getfield 16, 3) := by decide +kernel
theorem dX1_startTrial_104 : decode cX1_startTrial 104 = .ok (.aload_n 0, 1) := by decide +kernel
theorem dX1_startTrial_105 : decode cX1_startTrial 105 = .ok (.getfield 10, 3) := by decide +kernel
theorem dX1_startTrial_108 : decode cX1_startTrial 108 = .ok (.getfield 158, 3) := by decide +kernel
theorem dX1_startTrial_111 : decode cX1_startTrial 111 = .ok (.putfield 158, 3) := by decide +kernel
theorem dX1_startTrial_114 : decode cX1_startTrial 114 = .ok (.return_, 1) := by decide +kernel
set_option maxRecDepth 20000 in
theorem ggX1_costWithWolf_X1_startTrial : GoodIn wsX1_costWithWolf wsX1_startTrial := goodIn_r _ [6, 1, 7, 8, 9, 10, 11, 12, 13, 47, 48, 49, 50, 51, 52, 53, 54] (by decide +kernel) (by decide +kernel)
set_option maxRecDepth 20000 in
theorem gX1_costWithWolf_X1_startTrial : GoodIn wsX1_costWithWolf (wsV RX1 117 RX1 yX1_startTrial wsX1_startTrial) := goodIn_app (goodIn_of _ (by decide +kernel)) ggX1_costWithWolf_X1_startTrial
set_option maxRecDepth 20000 in
theorem ggX1_costWithWolf_X0_moveWolf : GoodIn wsX1_costWithWolf wsX0_moveWolf := goodIn_r _ [18, 19, 20, 21, 22, 23, 24, 49, 50, 51, 52, 53, 54] (by decide +kernel) (by decide +kernel)
set_option maxRecDepth 20000 in
theorem gX1_costWithWolf_X0_moveWolf : GoodIn wsX1_costWithWolf (wsV RX1 42 RX0 yX0_moveWolf wsX0_moveWolf) := goodIn_app (goodIn_of _ (by decide +kernel)) ggX1_costWithWolf_X0_moveWolf
set_option maxRecDepth 20000 in
theorem ggX1_costWithWolf_X0_cost : GoodIn wsX1_costWithWolf wsX0_cost := goodIn_r _ [28, 29, 30, 31, 32, 17, 33, 34, 35, 36, 37, 38, 39, 40, 41, 42, 43, 44, 45, 20, 46, 21, 22, 23, 24, 49, 50, 51, 52, 53, 54] (by decide +kernel) (by decide +kernel)
set_option maxRecDepth 20000 in
theorem gX1_costWithWolf_X0_cost : GoodIn wsX1_costWithWolf (wsV RX1 129 RX0 yX0_cost wsX0_cost) := goodIn_app (goodIn_of _ (by decide +kernel)) ggX1_costWithWolf_X0_cost
theorem dX1_costWithWolf_0 : decode cX1_costWithWolf 0 = .ok (.aload_n 0, 1) := by decide +kernel
theorem dX1_costWithWolf_1 : decode cX1_costWithWolf 1 = .ok (.invokevirtual 117, 3) := by decide +kernel
theorem dX1_costWithWolf_4 : decode cX1_costWithWolf 4 = .ok (.aload_n 0, 1) := by decide +kernel
theorem dX1_costWithWolf_5 : decode cX1_costWithWolf 5 = .ok (.getfield 16, 3) := by decide +kernel
theorem dX1_costWithWolf_8 : decode cX1_costWithWolf 8 = .ok (.iload_n 1, 1) := by decide +kernel
theorem dX1_costWithWolf_9 : decode cX1_costWithWolf 9 = .ok (.invokevirtual 42, 3) := by decide +kernel
theorem dX1_costWithWolf_12 : decode cX1_costWithWolf 12 = .ok (.aload_n 0, 1) := by decide +kernel
theorem dX1_costWithWolf_13 : decode cX1_costWithWolf 13 = .ok (.getfield 16, 3) := by decide +kernel
theorem dX1_costWithWolf_16 : decode cX1_costWithWolf 16 = .ok (.invokevirtual 129, 3) := by decide +kernel
theorem dX1_costWithWolf_19 : decode cX1_costWithWolf 19 = .ok (.ireturn, 1) := by decide +kernel
set_option maxRecDepth 20000 in
theorem ggX1_costWithNarrow_X1_startTrial : GoodIn wsX1_costWithNarrow wsX1_startTrial := goodIn_r _ [6, 1, 7, 8, 9, 10, 11, 12, 13, 51, 52, 53, 54, 55, 56, 57, 58] (by decide +kernel) (by decide +kernel)
set_option maxRecDepth 20000 in
theorem gX1_costWithNarrow_X1_startTrial : GoodIn wsX1_costWithNarrow (wsV RX1 117 RX1 yX1_startTrial wsX1_startTrial) := goodIn_app (goodIn_of _ (by decide +kernel)) ggX1_costWithNarrow_X1_startTrial
set_option maxRecDepth 20000 in
theorem ggX1_costWithNarrow_X0_plan : GoodIn wsX1_costWithNarrow wsX0_plan := goodIn_r _ [18, 19, 20, 21, 22, 23, 24, 25, 26, 17, 27, 28, 53, 54, 55, 56, 57, 58] (by decide +kernel) (by decide +kernel)
set_option maxRecDepth 20000 in
theorem gX1_costWithNarrow_X0_plan : GoodIn wsX1_costWithNarrow (wsV RX1 34 RX0 yX0_plan wsX0_plan) := goodIn_app (goodIn_of _ (by decide +kernel)) ggX1_costWithNarrow_X0_plan
set_option maxRecDepth 20000 in
theorem ggX1_costWithNarrow_X0_cost : GoodIn wsX1_costWithNarrow wsX0_cost := goodIn_r _ [32, 33, 34, 35, 36, 17, 37, 38, 39, 40, 41, 42, 43, 44, 45, 46, 47, 48, 49, 19, 50, 20, 21, 22, 23, 53, 54, 55, 56, 57, 58] (by decide +kernel) (by decide +kernel)
set_option maxRecDepth 20000 in
theorem gX1_costWithNarrow_X0_cost : GoodIn wsX1_costWithNarrow (wsV RX1 129 RX0 yX0_cost wsX0_cost) := goodIn_app (goodIn_of _ (by decide +kernel)) ggX1_costWithNarrow_X0_cost
theorem dX1_costWithNarrow_0 : decode cX1_costWithNarrow 0 = .ok (.aload_n 0, 1) := by decide +kernel
theorem dX1_costWithNarrow_1 : decode cX1_costWithNarrow 1 = .ok (.invokevirtual 117, 3) := by decide +kernel
theorem dX1_costWithNarrow_4 : decode cX1_costWithNarrow 4 = .ok (.aload_n 0, 1) := by decide +kernel
theorem dX1_costWithNarrow_5 : decode cX1_costWithNarrow 5 = .ok (.getfield 16, 3) := by decide +kernel
theorem dX1_costWithNarrow_8 : decode cX1_costWithNarrow 8 = .ok (.iload_n 1, 1) := by decide +kernel
theorem dX1_costWithNarrow_9 : decode cX1_costWithNarrow 9 = .ok (.iload_n 2, 1) := by decide +kernel
theorem dX1_costWithNarrow_10 : decode cX1_costWithNarrow 10 = .ok (.invokevirtual 34, 3) := by decide +kernel
theorem dX1_costWithNarrow_13 : decode cX1_costWithNarrow 13 = .ok (.aload_n 0, 1) := by decide +kernel
theorem dX1_costWithNarrow_14 : decode cX1_costWithNarrow 14 = .ok (.getfield 16, 3) := by decide +kernel
theorem dX1_costWithNarrow_17 : decode cX1_costWithNarrow 17 = .ok (.invokevirtual 129, 3) := by decide +kernel
theorem dX1_costWithNarrow_20 : decode cX1_costWithNarrow 20 = .ok (.ireturn, 1) := by decide +kernel
set_option maxRecDepth 20000 in
theorem ggX1_costWithTuned_X1_startTrial : GoodIn wsX1_costWithTuned wsX1_startTrial := goodIn_r _ [6, 1, 7, 8, 9, 10, 11, 12, 13, 46, 47, 48, 49, 50, 51, 52, 53] (by decide +kernel) (by decide +kernel)
set_option maxRecDepth 20000 in
theorem gX1_costWithTuned_X1_startTrial : GoodIn wsX1_costWithTuned (wsV RX1 117 RX1 yX1_startTrial wsX1_startTrial) := goodIn_app (goodIn_of _ (by decide +kernel)) ggX1_costWithTuned_X1_startTrial
set_option maxRecDepth 20000 in
theorem ggX1_costWithTuned_X0_tuneOne : GoodIn wsX1_costWithTuned wsX0_tuneOne := goodIn_r _ [18, 19, 20, 21, 22, 23, 48, 49, 50, 51, 52, 53] (by decide +kernel) (by decide +kernel)
set_option maxRecDepth 20000 in
theorem gX1_costWithTuned_X0_tuneOne : GoodIn wsX1_costWithTuned (wsV RX1 69 RX0 yX0_tuneOne wsX0_tuneOne) := goodIn_app (goodIn_of _ (by decide +kernel)) ggX1_costWithTuned_X0_tuneOne
set_option maxRecDepth 20000 in
theorem ggX1_costWithTuned_X0_cost : GoodIn wsX1_costWithTuned wsX0_cost := goodIn_r _ [27, 28, 29, 30, 31, 17, 32, 33, 34, 35, 36, 37, 38, 39, 40, 41, 42, 43, 44, 45, 19, 20, 21, 22, 23, 48, 49, 50, 51, 52, 53] (by decide +kernel) (by decide +kernel)
set_option maxRecDepth 20000 in
theorem gX1_costWithTuned_X0_cost : GoodIn wsX1_costWithTuned (wsV RX1 129 RX0 yX0_cost wsX0_cost) := goodIn_app (goodIn_of _ (by decide +kernel)) ggX1_costWithTuned_X0_cost
theorem dX1_costWithTuned_0 : decode cX1_costWithTuned 0 = .ok (.aload_n 0, 1) := by decide +kernel
theorem dX1_costWithTuned_1 : decode cX1_costWithTuned 1 = .ok (.invokevirtual 117, 3) := by decide +kernel
theorem dX1_costWithTuned_4 : decode cX1_costWithTuned 4 = .ok (.aload_n 0, 1) := by decide +kernel
theorem dX1_costWithTuned_5 : decode cX1_costWithTuned 5 = .ok (.getfield 16, 3) := by decide +kernel
theorem dX1_costWithTuned_8 : decode cX1_costWithTuned 8 = .ok (.iload_n 1, 1) := by decide +kernel
theorem dX1_costWithTuned_9 : decode cX1_costWithTuned 9 = .ok (.invokevirtual 69, 3) := by decide +kernel
theorem dX1_costWithTuned_12 : decode cX1_costWithTuned 12 = .ok (.pop, 1) := by decide +kernel
theorem dX1_costWithTuned_13 : decode cX1_costWithTuned 13 = .ok (.aload_n 0, 1) := by decide +kernel
theorem dX1_costWithTuned_14 : decode cX1_costWithTuned 14 = .ok (.getfield 16, 3) := by decide +kernel
theorem dX1_costWithTuned_17 : decode cX1_costWithTuned 17 = .ok (.invokevirtual 129, 3) := by decide +kernel
theorem dX1_costWithTuned_20 : decode cX1_costWithTuned 20 = .ok (.ireturn, 1) := by decide +kernel
