theorem dX2_count_0 : decode cX2_count 0 = .ok (.aload_n 0, 1) := by decide +kernel
theorem dX2_count_1 : decode cX2_count 1 = .ok (.iconst 0, 1) := by decide +kernel
theorem dX2_count_2 : decode cX2_count 2 = .ok (.putfield 26, 3) := by decide +kernel
theorem dX2_count_5 : decode cX2_count 5 = .ok (.iload_n 1, 1) := by decide +kernel
theorem dX2_count_6 : decode cX2_count 6 = .ok (.iconst 0, 1) := by decide +kernel
theorem dX2_count_7 : decode cX2_count 7 = .ok (.bipush 6, 2) := by decide +kernel
theorem dX2_count_9 : decode cX2_count 9 = .ok (.invokestatic 29, 3) := by decide +kernel
theorem dX2_count_12 : decode cX2_count 12 = .ok (.ifCond .eq 11, 3) := by decide +kernel
theorem dX2_count_15 : decode cX2_count 15 = .ok (.aload_n 0, 1) := by decide +kernel
theorem dX2_count_16 : decode cX2_count 16 = .ok (.iload_n 1, 1) := by decide +kernel
theorem dX2_count_17 : decode cX2_count 17 = .ok (.invokevirtual 134, 3) := by decide +kernel
theorem dX2_count_20 : decode cX2_count 20 = .ok (.goto 8, 3) := by decide +kernel
theorem dX2_count_23 : decode cX2_count 23 = .ok (.aload_n 0, 1) := by decide +kernel
theorem dX2_count_24 : decode cX2_count 24 = .ok (.iconst 1, 1) := by decide +kernel
theorem dX2_count_25 : decode cX2_count 25 = .ok (.invokevirtual 78, 3) := by decide +kernel
theorem dX2_count_28 : decode cX2_count 28 = .ok (.ireturn, 1) := by decide +kernel
theorem dX2_copyOf_0 : decode cX2_copyOf 0 = .ok (.bipush 12, 2) := by decide +kernel
theorem dX2_copyOf_2 : decode cX2_copyOf 2 = .ok (.newarray .int, 2) := by decide +kernel
theorem dX2_copyOf_4 : decode cX2_copyOf 4 = .ok (.astore_n 2, 1) := by decide +kernel
theorem dX2_copyOf_5 : decode cX2_copyOf 5 = .ok (.aload_n 1, 1) := by decide +kernel
theorem dX2_copyOf_6 : decode cX2_copyOf 6 = .ok (.iconst 0, 1) := by decide +kernel
theorem dX2_copyOf_7 : decode cX2_copyOf 7 = .ok (.aload_n 2, 1) := by decide +kernel
theorem dX2_copyOf_8 : decode cX2_copyOf 8 = .ok (.iconst 0, 1) := by decide +kernel
theorem dX2_copyOf_9 : decode cX2_copyOf 9 = .ok (.bipush 12, 2) := by decide +kernel
theorem dX2_copyOf_11 : decode cX2_copyOf 11 = .ok (.invokestatic 137, 3) := by decide +kernel
theorem dX2_copyOf_14 : decode cX2_copyOf 14 = .ok (.aload_n 2, 1) := by decide +kernel
theorem dX2_copyOf_15 : decode cX2_copyOf 15 = .ok (.areturn, 1) := by decide +kernel
set_option maxRecDepth 20000 in
theorem ggX2_foresee_X2_isIn : GoodIn wsX2_foresee wsX2_isIn := goodIn_r _ [7] (by decide +kernel) (by decide +kernel)
set_option maxRecDepth 20000 in
theorem gX2_foresee_X2_isIn : GoodIn wsX2_foresee (va_wsS RX2 29 yX2_isIn wsX2_isIn) := goodIn_app (goodIn_of _ (by decide +kernel)) ggX2_foresee_X2_isIn
set_option maxRecDepth 20000 in
theorem ggX2_foresee_X2_no : GoodIn wsX2_foresee wsX2_no := goodIn_r _ [11, 1, 85, 86, 87, 88, 89, 90, 91] (by decide +kernel) (by decide +kernel)
set_option maxRecDepth 20000 in
theorem gX2_foresee_X2_no : GoodIn wsX2_foresee (wsV RX2 78 RX2 yX2_no wsX2_no) := goodIn_app (goodIn_of _ (by decide +kernel)) ggX2_foresee_X2_no
set_option maxRecDepth 20000 in
theorem ggX2_foresee_X2_copyOf : GoodIn wsX2_foresee wsX2_copyOf := goodIn_r _ [15, 16, 17, 18, 19, 20] (by decide +kernel) (by decide +kernel)
set_option maxRecDepth 20000 in
theorem gX2_foresee_X2_copyOf : GoodIn wsX2_foresee (wsV RX2 143 RX2 yX2_copyOf wsX2_copyOf) := goodIn_app (goodIn_of _ (by decide +kernel)) ggX2_foresee_X2_copyOf
set_option maxRecDepth 20000 in
theorem ggX2_foresee_X2_pass : GoodIn wsX2_foresee wsX2_pass := goodIn_r _ [24, 2, 25, 3, 26, 27, 6, 28, 29, 30, 31, 32, 33, 34, 35, 85, 86, 87, 88, 89, 90, 91] (by decide +kernel) (by decide +kernel)
set_option maxRecDepth 20000 in
theorem gX2_foresee_X2_pass : GoodIn wsX2_foresee (wsV RX2 100 RX2 yX2_pass wsX2_pass) := goodIn_app (goodIn_of _ (by decide +kernel)) ggX2_foresee_X2_pass
set_option maxRecDepth 20000 in
theorem ggX2_foresee_X2_counted : GoodIn wsX2_foresee wsX2_counted := goodIn_r _ [39, 3, 40, 41, 42, 31, 43, 33, 34, 35, 2, 44, 45, 46, 6, 47, 48, 49, 50, 51, 52, 53, 54, 55, 56, 57, 58, 59, 60, 61, 62, 63, 64, 65, 66, 67, 68, 69, 70, 71, 72, 73, 74, 75, 76, 77, 78, 79, 80, 81, 82, 83, 84, 85, 86, 87, 88, 89, 90, 91] (by decide +kernel) (by decide +kernel)
set_option maxRecDepth 20000 in
theorem gX2_foresee_X2_counted : GoodIn wsX2_foresee (wsV RX2 134 RX2 yX2_counted wsX2_counted) := goodIn_app (goodIn_of _ (by decide +kernel)) ggX2_foresee_X2_counted
theorem dX2_foresee_0 : decode cX2_foresee 0 = .ok (.aload_n 0, 1) := by decide +kernel
theorem dX2_foresee_1 : decode cX2_foresee 1 = .ok (.iconst 0, 1) := by decide +kernel
theorem dX2_foresee_2 : decode cX2_foresee 2 = .ok (.putfield 26, 3) := by decide +kernel
theorem dX2_foresee_5 : decode cX2_foresee 5 = .ok (.iload_n 1, 1) := by decide +kernel
theorem dX2_foresee_6 : decode cX2_foresee 6 = .ok (.iconst 1, 1) := by decide +kernel
theorem dX2_foresee_7 : decode cX2_foresee 7 = .ok (.bipush 100, 2) := by decide +kernel
theorem dX2_foresee_9 : decode cX2_foresee 9 = .ok (.invokestatic 29, 3) := by decide +kernel
theorem dX2_foresee_12 : decode cX2_foresee 12 = .ok (.ifCond .ne 9, 3) := by decide +kernel
theorem dX2_foresee_15 : decode cX2_foresee 15 = .ok (.aload_n 0, 1) := by decide +kernel
theorem dX2_foresee_16 : decode cX2_foresee 16 = .ok (.iconst 1, 1) := by decide +kernel
theorem dX2_foresee_17 : decode cX2_foresee 17 = .ok (.invokevirtual 78, 3) := by decide +kernel
theorem dX2_foresee_20 : decode cX2_foresee 20 = .ok (.ireturn, 1) := by decide +kernel
theorem dX2_foresee_21 : decode cX2_foresee 21 = .ok (.iload_n 2, 1) := by decide +kernel
theorem dX2_foresee_22 : decode cX2_foresee 22 = .ok (.iconst 2, 1) := by decide +kernel
theorem dX2_foresee_23 : decode cX2_foresee 23 = .ok (.bipush 6, 2) := by decide +kernel
theorem dX2_foresee_25 : decode cX2_foresee 25 = .ok (.invokestatic 29, 3) := by decide +kernel
theorem dX2_foresee_28 : decode cX2_foresee 28 = .ok (.ifCond .ne 9, 3) := by decide +kernel
theorem dX2_foresee_31 : decode cX2_foresee 31 = .ok (.aload_n 0, 1) := by decide +kernel
theorem dX2_foresee_32 : decode cX2_foresee 32 = .ok (.iconst 2, 1) := by decide +kernel
theorem dX2_foresee_33 : decode cX2_foresee 33 = .ok (.invokevirtual 78, 3) := by decide +kernel
theorem dX2_foresee_36 : decode cX2_foresee 36 = .ok (.ireturn, 1) := by decide +kernel
theorem dX2_foresee_37 : decode cX2_foresee 37 = .ok (.aload_n 0, 1) := by decide +kernel
theorem dX2_foresee_38 : decode cX2_foresee 38 = .ok (.aload_n 0, 1) := by decide +kernel
theorem dX2_foresee_39 : decode cX2_foresee 39 = .ok (.getfield 23, 3) := by decide +kernel
theorem dX2_foresee_42 : decode cX2_foresee 42 = .ok (.invokevirtual 143, 3) := by decide +kernel
theorem dX2_foresee_45 : decode cX2_foresee 45 = .ok (.astore_n 3, 1) := by decide +kernel
theorem dX2_foresee_46 : decode cX2_foresee 46 = .ok (.aload_n 0, 1) := by decide +kernel
theorem dX2_foresee_47 : decode cX2_foresee 47 = .ok (.getfield 97, 3) := by decide +kernel
theorem dX2_foresee_50 : decode cX2_foresee 50 = .ok (.istore 4, 2) := by decide +kernel
theorem dX2_foresee_52 : decode cX2_foresee 52 = .ok (.iconst 0, 1) := by decide +kernel
theorem dX2_foresee_53 : decode cX2_foresee 53 = .ok (.istore 5, 2) := by decide +kernel
theorem dX2_foresee_55 : decode cX2_foresee 55 = .ok (.iload 5, 2) := by decide +kernel
theorem dX2_foresee_57 : decode cX2_foresee 57 = .ok (.iload_n 1, 1) := by decide +kernel
theorem dX2_foresee_58 : decode cX2_foresee 58 = .ok (.if_icmp .ge 13, 3) := by decide +kernel
theorem dX2_foresee_61 : decode cX2_foresee 61 = .ok (.aload_n 0, 1) := by decide +kernel
theorem dX2_foresee_62 : decode cX2_foresee 62 = .ok (.invokevirtual 100, 3) := by decide +kernel
theorem dX2_foresee_65 : decode cX2_foresee 65 = .ok (.iinc 5 1, 3) := by decide +kernel
theorem dX2_foresee_68 : decode cX2_foresee 68 = .ok (.goto (-13), 3) := by decide +kernel
theorem dX2_foresee_71 : decode cX2_foresee 71 = .ok (.aload_n 0, 1) := by decide +kernel
theorem dX2_foresee_72 : decode cX2_foresee 72 = .ok (.iload_n 2, 1) := by decide +kernel
theorem dX2_foresee_73 : decode cX2_foresee 73 = .ok (.invokevirtual 134, 3) := by decide +kernel
theorem dX2_foresee_76 : decode cX2_foresee 76 = .ok (.istore 5, 2) := by decide +kernel
theorem dX2_foresee_78 : decode cX2_foresee 78 = .ok (.aload_n 0, 1) := by decide +kernel
theorem dX2_foresee_79 : decode cX2_foresee 79 = .ok (.aload_n 3, 1) := by decide +kernel
theorem dX2_foresee_80 : decode cX2_foresee 80 = .ok (.putfield 23, 3) := by decide +kernel
theorem dX2_foresee_83 : decode cX2_foresee 83 = .ok (.aload_n 0, 1) := by decide +kernel
theorem dX2_foresee_84 : decode cX2_foresee 84 = .ok (.iload 4, 2) := by decide +kernel
theorem dX2_foresee_86 : decode cX2_foresee 86 = .ok (.putfield 97, 3) := by decide +kernel
theorem dX2_foresee_89 : decode cX2_foresee 89 = .ok (.iload 5, 2) := by decide +kernel
theorem dX2_foresee_91 : decode cX2_foresee 91 = .ok (.ireturn, 1) := by decide +kernel
set_option maxRecDepth 20000 in
theorem ggX2_until_X2_isIn : GoodIn wsX2_until wsX2_isIn := goodIn_r _ [7] (by decide +kernel) (by decide +kernel)
set_option maxRecDepth 20000 in
theorem gX2_until_X2_isIn : GoodIn wsX2_until (va_wsS RX2 29 yX2_isIn wsX2_isIn) := goodIn_app (goodIn_of _ (by decide +kernel)) ggX2_until_X2_isIn
set_option maxRecDepth 20000 in
theorem ggX2_until_X2_no : GoodIn wsX2_until wsX2_no := goodIn_r _ [11, 1, 68, 69, 70, 71, 72, 73, 74] (by decide +kernel) (by decide +kernel)
set_option maxRecDepth 20000 in
theorem gX2_until_X2_no : GoodIn wsX2_until (wsV RX2 78 RX2 yX2_no wsX2_no) := goodIn_app (goodIn_of _ (by decide +kernel)) ggX2_until_X2_no
set_option maxRecDepth 20000 in
theorem ggX2_until_X2_copyOf : GoodIn wsX2_until wsX2_copyOf := goodIn_r _ [15, 16, 17, 18, 19, 20] (by decide +kernel) (by decide +kernel)
set_option maxRecDepth 20000 in
theorem gX2_until_X2_copyOf : GoodIn wsX2_until (wsV RX2 143 RX2 yX2_copyOf wsX2_copyOf) := goodIn_app (goodIn_of _ (by decide +kernel)) ggX2_until_X2_copyOf
set_option maxRecDepth 20000 in
theorem ggX2_until_X2_fastest : GoodIn wsX2_until wsX2_fastest := goodIn_r _ [24, 25, 26, 27, 28, 29, 30, 31, 32, 6, 33, 34, 35, 36, 37, 38, 39, 40, 41, 2, 42, 43, 44, 45, 46, 47, 48, 49, 50, 51, 52, 53, 54, 55, 56, 68, 69, 70, 71, 72, 73, 74] (by decide +kernel) (by decide +kernel)
set_option maxRecDepth 20000 in
theorem gX2_until_X2_fastest : GoodIn wsX2_until (wsV RX2 131 RX2 yX2_fastest wsX2_fastest) := goodIn_app (goodIn_of _ (by decide +kernel)) ggX2_until_X2_fastest
set_option maxRecDepth 20000 in
theorem ggX2_until_X2_pass : GoodIn wsX2_until wsX2_pass := goodIn_r _ [60, 2, 61, 3, 62, 63, 6, 64, 65, 66, 28, 67, 26, 27, 29, 68, 69, 70, 71, 72, 73, 74] (by decide +kernel) (by decide +kernel)
set_option maxRecDepth 20000 in
theorem gX2_until_X2_pass : GoodIn wsX2_until (wsV RX2 100 RX2 yX2_pass wsX2_pass) := goodIn_app (goodIn_of _ (by decide +kernel)) ggX2_until_X2_pass
theorem dX2_until_0 : decode cX2_until 0 = .ok (.aload_n 0, 1) := by decide +kernel
theorem dX2_until_1 : decode cX2_until 1 = .ok (.iconst 0, 1) := by decide +kernel
theorem dX2_until_2 : decode cX2_until 2 = .ok (.putfield 26, 3) := by decide +kernel
theorem dX2_until_5 : decode cX2_until 5 = .ok (.iload_n 1, 1) := by decide +kernel
theorem dX2_until_6 : decode cX2_until 6 = .ok (.iconst 1, 1) := by decide +kernel
theorem dX2_until_7 : decode cX2_until 7 = .ok (.sipush 9999, 3) := by decide +kernel
theorem dX2_until_10 : decode cX2_until 10 = .ok (.invokestatic 29, 3) := by decide +kernel
theorem dX2_until_13 : decode cX2_until 13 = .ok (.ifCond .ne 9, 3) := by decide +kernel
theorem dX2_until_16 : decode cX2_until 16 = .ok (.aload_n 0, 1) := by decide +kernel
theorem dX2_until_17 : decode cX2_until 17 = .ok (.iconst 1, 1) := by decide +kernel
theorem dX2_until_18 : decode cX2_until 18 = .ok (.invokevirtual 78, 3) := by decide +kernel
theorem dX2_until_21 : decode cX2_until 21 = .ok (.ireturn, 1) := by decide +kernel
theorem dX2_until_22 : decode cX2_until 22 = .ok (.aload_n 0, 1) := by decide +kernel
theorem dX2_until_23 : decode cX2_until 23 = .ok (.aload_n 0, 1) := by decide +kernel
theorem dX2_until_24 : decode cX2_until 24 = .ok (.getfield 23, 3) := by decide +kernel
theorem dX2_until_27 : decode cX2_until 27 = .ok (.invokevirtual 143, 3) := by decide +kernel
theorem dX2_until_30 : decode cX2_until 30 = .ok (.astore_n 2, 1) := by decide +kernel
theorem dX2_until_31 : decode cX2_until 31 = .ok (.aload_n 0, 1) := by decide +kernel
theorem dX2_until_32 : decode cX2_until 32 = .ok (.getfield 97, 3) := by decide +kernel
theorem dX2_until_35 : decode cX2_until 35 = .ok (.istore_n 3, 1) := by decide +kernel
theorem dX2_until_36 : decode cX2_until 36 = .ok (.iconst 0, 1) := by decide +kernel
theorem dX2_until_37 : decode cX2_until 37 = .ok (.istore 4, 2) := by decide +kernel
theorem dX2_until_39 : decode cX2_until 39 = .ok (.iload 4, 2) := by decide +kernel
theorem dX2_until_41 : decode cX2_until 41 = .ok (.sipush 200, 3) := by decide +kernel
theorem dX2_until_44 : decode cX2_until 44 = .ok (.if_icmp .gt 21, 3) := by decide +kernel
theorem dX2_until_47 : decode cX2_until 47 = .ok (.aload_n 0, 1) := by decide +kernel
theorem dX2_until_48 : decode cX2_until 48 = .ok (.invokevirtual 131, 3) := by decide +kernel
theorem dX2_until_51 : decode cX2_until 51 = .ok (.iload_n 1, 1) := by decide +kernel
theorem dX2_until_52 : decode cX2_until 52 = .ok (.if_icmp .ge 13, 3) := by decide +kernel
theorem dX2_until_55 : decode cX2_until 55 = .ok (.aload_n 0, 1) := by decide +kernel
theorem dX2_until_56 : decode cX2_until 56 = .ok (.invokevirtual 100, 3) := by decide +kernel
theorem dX2_until_59 : decode cX2_until 59 = .ok (.iinc 4 1, 3) := by decide +kernel
theorem dX2_until_62 : decode cX2_until 62 = .ok (.goto (-23), 3) := by decide +kernel
theorem dX2_until_65 : decode cX2_until 65 = .ok (.aload_n 0, 1) := by decide +kernel
theorem dX2_until_66 : decode cX2_until 66 = .ok (.aload_n 2, 1) := by decide +kernel
theorem dX2_until_67 : decode cX2_until 67 = .ok (.putfield 23, 3) := by decide +kernel
theorem dX2_until_70 : decode cX2_until 70 = .ok (.aload_n 0, 1) := by decide +kernel
theorem dX2_until_71 : decode cX2_until 71 = .ok (.iload_n 3, 1) := by decide +kernel
theorem dX2_until_72 : decode cX2_until 72 = .ok (.putfield 97, 3) := by decide +kernel
theorem dX2_until_75 : decode cX2_until 75 = .ok (.iload 4, 2) := by decide +kernel
theorem dX2_until_77 : decode cX2_until 77 = .ok (.sipush 200, 3) := by decide +kernel
theorem dX2_until_80 : decode cX2_until 80 = .ok (.if_icmp .le 7, 3) := by decide +kernel
theorem dX2_until_83 : decode cX2_until 83 = .ok (.iconst (-1), 1) := by decide +kernel
theorem dX2_until_84 : decode cX2_until 84 = .ok (.goto 5, 3) := by decide +kernel
theorem dX2_until_87 : decode cX2_until 87 = .ok (.iload 4, 2) := by decide +kernel
theorem dX2_until_89 : decode cX2_until 89 = .ok (.ireturn, 1) := by decide +kernel
set_option maxRecDepth 20000 in
theorem ggX2_advise_X2_shiftTo : GoodIn wsX2_advise wsX2_shiftTo := goodIn_r _ [7, 8, 2, 9, 10, 11, 6, 12, 39, 40, 41, 42, 43, 44, 45] (by decide +kernel) (by decide +kernel)
set_option maxRecDepth 20000 in
theorem gX2_advise_X2_shiftTo : GoodIn wsX2_advise (wsV RX2 81 RX2 yX2_shiftTo wsX2_shiftTo) := goodIn_app (goodIn_of _ (by decide +kernel)) ggX2_advise_X2_shiftTo
set_option maxRecDepth 20000 in
theorem ggX2_advise_X2_costs : GoodIn wsX2_advise wsX2_costs := goodIn_r _ [16, 17, 18, 19, 20, 6, 21, 22, 23, 24, 25, 26, 27, 28, 29, 30, 31, 32, 33, 34, 35, 36, 37, 38, 9, 10, 11, 12, 2, 8, 39, 40, 41, 42, 43, 44, 45] (by decide +kernel) (by decide +kernel)
set_option maxRecDepth 20000 in
theorem gX2_advise_X2_costs : GoodIn wsX2_advise (wsV RX2 127 RX2 yX2_costs wsX2_costs) := goodIn_app (goodIn_of _ (by decide +kernel)) ggX2_advise_X2_costs
theorem dX2_advise_0 : decode cX2_advise 0 = .ok (.aload_n 0, 1) := by decide +kernel
theorem dX2_advise_1 : decode cX2_advise 1 = .ok (.iconst 0, 1) := by decide +kernel
theorem dX2_advise_2 : decode cX2_advise 2 = .ok (.putfield 26, 3) := by decide +kernel
theorem dX2_advise_5 : decode cX2_advise 5 = .ok (.aload_n 0, 1) := by decide +kernel
theorem dX2_advise_6 : decode cX2_advise 6 = .ok (.getfield 7, 3) := by decide +kernel
theorem dX2_advise_9 : decode cX2_advise 9 = .ok (.istore_n 1, 1) := by decide +kernel
theorem dX2_advise_10 : decode cX2_advise 10 = .ok (.iconst (-1), 1) := by decide +kernel
theorem dX2_advise_11 : decode cX2_advise 11 = .ok (.istore_n 2, 1) := by decide +kernel
theorem dX2_advise_12 : decode cX2_advise 12 = .ok (.iconst 0, 1) := by decide +kernel
theorem dX2_advise_13 : decode cX2_advise 13 = .ok (.istore_n 3, 1) := by decide +kernel
theorem dX2_advise_14 : decode cX2_advise 14 = .ok (.iconst 0, 1) := by decide +kernel
theorem dX2_advise_15 : decode cX2_advise 15 = .ok (.istore 4, 2) := by decide +kernel
theorem dX2_advise_17 : decode cX2_advise 17 = .ok (.iload 4, 2) := by decide +kernel
theorem dX2_advise_19 : decode cX2_advise 19 = .ok (.bipush 12, 2) := by decide +kernel
theorem dX2_advise_21 : decode cX2_advise 21 = .ok (.if_icmp .ge 46, 3) := by decide +kernel
theorem dX2_advise_24 : decode cX2_advise 24 = .ok (.aload_n 0, 1) := by decide +kernel
theorem dX2_advise_25 : decode cX2_advise 25 = .ok (.iload 4, 2) := by decide +kernel
theorem dX2_advise_27 : decode cX2_advise 27 = .ok (.invokevirtual 81, 3) := by decide +kernel
theorem dX2_advise_30 : decode cX2_advise 30 = .ok (.aload_n 0, 1) := by decide +kernel
theorem dX2_advise_31 : decode cX2_advise 31 = .ok (.invokevirtual 127, 3) := by decide +kernel
theorem dX2_advise_34 : decode cX2_advise 34 = .ok (.istore 5, 2) := by decide +kernel
theorem dX2_advise_36 : decode cX2_advise 36 = .ok (.aload_n 0, 1) := by decide +kernel
theorem dX2_advise_37 : decode cX2_advise 37 = .ok (.iload_n 1, 1) := by decide +kernel
theorem dX2_advise_38 : decode cX2_advise 38 = .ok (.invokevirtual 81, 3) := by decide +kernel
theorem dX2_advise_41 : decode cX2_advise 41 = .ok (.iload_n 2, 1) := by decide +kernel
theorem dX2_advise_42 : decode cX2_advise 42 = .ok (.iconst (-1), 1) := by decide +kernel
theorem dX2_advise_43 : decode cX2_advise 43 = .ok (.if_icmp .eq 12, 3) := by decide +kernel
theorem dX2_advise_46 : decode cX2_advise 46 = .ok (.iload 5, 2) := by decide +kernel
theorem dX2_advise_48 : decode cX2_advise 48 = .ok (.iload_n 3, 1) := by decide +kernel
theorem dX2_advise_49 : decode cX2_advise 49 = .ok (.if_icmp .lt 6, 3) := by decide +kernel
theorem dX2_advise_52 : decode cX2_advise 52 = .ok (.goto 9, 3) := by decide +kernel
theorem dX2_advise_55 : decode cX2_advise 55 = .ok (.iload 4, 2) := by decide +kernel
theorem dX2_advise_57 : decode cX2_advise 57 = .ok (.istore_n 2, 1) := by decide +kernel
theorem dX2_advise_58 : decode cX2_advise 58 = .ok (.iload 5, 2) := by decide +kernel
theorem dX2_advise_60 : decode cX2_advise 60 = .ok (.istore_n 3, 1) := by decide +kernel
theorem dX2_advise_61 : decode cX2_advise 61 = .ok (.iinc 4 1, 3) := by decide +kernel
theorem dX2_advise_64 : decode cX2_advise 64 = .ok (.goto (-47), 3) := by decide +kernel
theorem dX2_advise_67 : decode cX2_advise 67 = .ok (.iload_n 2, 1) := by decide +kernel
theorem dX2_advise_68 : decode cX2_advise 68 = .ok (.ireturn, 1) := by decide +kernel
set_option maxRecDepth 20000 in
theorem ggX2_temper_X2_isOne : GoodIn wsX2_temper wsX2_isOne := goodIn_r _ [7, 8, 9, 6, 10] (by decide +kernel) (by decide +kernel)
set_option maxRecDepth 20000 in
theorem gX2_temper_X2_isOne : GoodIn wsX2_temper (va_wsS RX2 74 yX2_isOne wsX2_isOne) := goodIn_app (goodIn_of _ (by decide +kernel)) ggX2_temper_X2_isOne
set_option maxRecDepth 20000 in
theorem ggX2_temper_X2_no : GoodIn wsX2_temper wsX2_no := goodIn_r _ [14, 1, 45, 46, 47, 48, 49, 50, 51] (by decide +kernel) (by decide +kernel)
set_option maxRecDepth 20000 in
theorem gX2_temper_X2_no : GoodIn wsX2_temper (wsV RX2 78 RX2 yX2_no wsX2_no) := goodIn_app (goodIn_of _ (by decide +kernel)) ggX2_temper_X2_no
set_option maxRecDepth 20000 in
theorem ggX2_temper_X2_costs : GoodIn wsX2_temper wsX2_costs := goodIn_r _ [18, 19, 20, 21, 22, 6, 23, 24, 25, 26, 27, 28, 29, 30, 31, 32, 33, 34, 35, 36, 37, 38, 39, 40, 41, 42, 43, 44, 2, 3, 45, 46, 47, 48, 49, 50, 51] (by decide +kernel) (by decide +kernel)
set_option maxRecDepth 20000 in
theorem gX2_temper_X2_costs : GoodIn wsX2_temper (wsV RX2 127 RX2 yX2_costs wsX2_costs) := goodIn_app (goodIn_of _ (by decide +kernel)) ggX2_temper_X2_costs
theorem dX2_temper_0 : decode cX2_temper 0 = .ok (.aload_n 0, 1) := by decide +kernel
theorem dX2_temper_1 : decode cX2_temper 1 = .ok (.iconst 0, 1) := by decide +kernel
theorem dX2_temper_2 : decode cX2_temper 2 = .ok (.putfield 26, 3) := by decide +kernel
theorem dX2_temper_5 : decode cX2_temper 5 = .ok (.iload_n 1, 1) := by decide +kernel
theorem dX2_temper_6 : decode cX2_temper 6 = .ok (.invokestatic 74, 3) := by decide +kernel
theorem dX2_temper_9 : decode cX2_temper 9 = .ok (.ifCond .ne 9, 3) := by decide +kernel
theorem dX2_temper_12 : decode cX2_temper 12 = .ok (.aload_n 0, 1) := by decide +kernel
theorem dX2_temper_13 : decode cX2_temper 13 = .ok (.iconst 1, 1) := by decide +kernel
theorem dX2_temper_14 : decode cX2_temper 14 = .ok (.invokevirtual 78, 3) := by decide +kernel
theorem dX2_temper_17 : decode cX2_temper 17 = .ok (.ireturn, 1) := by decide +kernel
theorem dX2_temper_18 : decode cX2_temper 18 = .ok (.iload_n 1, 1) := by decide +kernel
theorem dX2_temper_19 : decode cX2_temper 19 = .ok (.aload_n 0, 1) := by decide +kernel
theorem dX2_temper_20 : decode cX2_temper 20 = .ok (.getfield 7, 3) := by decide +kernel
theorem dX2_temper_23 : decode cX2_temper 23 = .ok (.if_icmp .ne 9, 3) := by decide +kernel
theorem dX2_temper_26 : decode cX2_temper 26 = .ok (.aload_n 0, 1) := by decide +kernel
theorem dX2_temper_27 : decode cX2_temper 27 = .ok (.iconst 2, 1) := by decide +kernel
theorem dX2_temper_28 : decode cX2_temper 28 = .ok (.invokevirtual 78, 3) := by decide +kernel
theorem dX2_temper_31 : decode cX2_temper 31 = .ok (.ireturn, 1) := by decide +kernel
theorem dX2_temper_32 : decode cX2_temper 32 = .ok (.aload_n 0, 1) := by decide +kernel
theorem dX2_temper_33 : decode cX2_temper 33 = .ok (.getfield 13, 3) := by decide +kernel
theorem dX2_temper_36 : decode cX2_temper 36 = .ok (.iload_n 1, 1) := by decide +kernel
theorem dX2_temper_37 : decode cX2_temper 37 = .ok (.iaload, 1) := by decide +kernel
theorem dX2_temper_38 : decode cX2_temper 38 = .ok (.istore_n 2, 1) := by decide +kernel
theorem dX2_temper_39 : decode cX2_temper 39 = .ok (.iconst 0, 1) := by decide +kernel
theorem dX2_temper_40 : decode cX2_temper 40 = .ok (.istore_n 3, 1) := by decide +kernel
theorem dX2_temper_41 : decode cX2_temper 41 = .ok (.iconst (-1), 1) := by decide +kernel
theorem dX2_temper_42 : decode cX2_temper 42 = .ok (.istore 4, 2) := by decide +kernel
theorem dX2_temper_44 : decode cX2_temper 44 = .ok (.bipush (-10), 2) := by decide +kernel
theorem dX2_temper_46 : decode cX2_temper 46 = .ok (.istore 5, 2) := by decide +kernel
theorem dX2_temper_48 : decode cX2_temper 48 = .ok (.iload 5, 2) := by decide +kernel
theorem dX2_temper_50 : decode cX2_temper 50 = .ok (.bipush 20, 2) := by decide +kernel
theorem dX2_temper_52 : decode cX2_temper 52 = .ok (.if_icmp .gt 46, 3) := by decide +kernel
theorem dX2_temper_55 : decode cX2_temper 55 = .ok (.aload_n 0, 1) := by decide +kernel
theorem dX2_temper_56 : decode cX2_temper 56 = .ok (.getfield 13, 3) := by decide +kernel
theorem dX2_temper_59 : decode cX2_temper 59 = .ok (.iload_n 1, 1) := by decide +kernel
theorem dX2_temper_60 : decode cX2_temper 60 = .ok (.iload 5, 2) := by decide +kernel
theorem dX2_temper_62 : decode cX2_temper 62 = .ok (.iastore, 1) := by decide +kernel
theorem dX2_temper_63 : decode cX2_temper 63 = .ok (.aload_n 0, 1) := by decide +kernel
theorem dX2_temper_64 : decode cX2_temper 64 = .ok (.invokevirtual 127, 3) := by decide +kernel
theorem dX2_temper_67 : decode cX2_temper 67 = .ok (.istore 6, 2) := by decide +kernel
theorem dX2_temper_69 : decode cX2_temper 69 = .ok (.iload 4, 2) := by decide +kernel
theorem dX2_temper_71 : decode cX2_temper 71 = .ok (.iconst (-1), 1) := by decide +kernel
theorem dX2_temper_72 : decode cX2_temper 72 = .ok (.if_icmp .eq 13, 3) := by decide +kernel
theorem dX2_temper_75 : decode cX2_temper 75 = .ok (.iload 6, 2) := by decide +kernel
theorem dX2_temper_77 : decode cX2_temper 77 = .ok (.iload 4, 2) := by decide +kernel
theorem dX2_temper_79 : decode cX2_temper 79 = .ok (.if_icmp .lt 6, 3) := by decide +kernel
theorem dX2_temper_82 : decode cX2_temper 82 = .ok (.goto 10, 3) := by decide +kernel
theorem dX2_temper_85 : decode cX2_temper 85 = .ok (.iload 5, 2) := by decide +kernel
theorem dX2_temper_87 : decode cX2_temper 87 = .ok (.istore_n 3, 1) := by decide +kernel
theorem dX2_temper_88 : decode cX2_temper 88 = .ok (.iload 6, 2) := by decide +kernel
theorem dX2_temper_90 : decode cX2_temper 90 = .ok (.istore 4, 2) := by decide +kernel
theorem dX2_temper_92 : decode cX2_temper 92 = .ok (.iinc 5 1, 3) := by decide +kernel
theorem dX2_temper_95 : decode cX2_temper 95 = .ok (.goto (-47), 3) := by decide +kernel
theorem dX2_temper_98 : decode cX2_temper 98 = .ok (.aload_n 0, 1) := by decide +kernel
theorem dX2_temper_99 : decode cX2_temper 99 = .ok (.getfield 13, 3) := by decide +kernel
theorem dX2_temper_102 : decode cX2_temper 102 = .ok (.iload_n 1, 1) := by decide +kernel
theorem dX2_temper_103 : decode cX2_temper 103 = .ok (.iload_n 2, 1) := by decide +kernel
theorem dX2_temper_104 : decode cX2_temper 104 = .ok (.iastore, 1) := by decide +kernel
theorem dX2_temper_105 : decode cX2_temper 105 = .ok (.iload_n 3, 1) := by decide +kernel
theorem dX2_temper_106 : decode cX2_temper 106 = .ok (.ireturn, 1) := by decide +kernel
set_option maxRecDepth 20000 in
theorem ggX2_next_X2_costs : GoodIn wsX2_next wsX2_costs := goodIn_r _ [7, 8, 9, 10, 11, 6, 12, 13, 14, 15, 16, 17, 18, 19, 20, 21, 22, 23, 24, 25, 26, 27, 28, 2, 29, 30, 31, 32, 33, 34, 46, 47, 48, 49, 50, 51, 52] (by decide +kernel) (by decide +kernel)
set_option maxRecDepth 20000 in
theorem gX2_next_X2_costs : GoodIn wsX2_next (wsV RX2 127 RX2 yX2_costs wsX2_costs) := goodIn_app (goodIn_of _ (by decide +kernel)) ggX2_next_X2_costs
set_option maxRecDepth 20000 in
theorem ggX2_next_X2_canTune : GoodIn wsX2_next wsX2_canTune := goodIn_r _ [38, 33, 39, 40, 6, 41, 46, 47, 48, 49, 50, 51, 52] (by decide +kernel) (by decide +kernel)
set_option maxRecDepth 20000 in
theorem gX2_next_X2_canTune : GoodIn wsX2_next (wsV RX2 88 RX2 yX2_canTune wsX2_canTune) := goodIn_app (goodIn_of _ (by decide +kernel)) ggX2_next_X2_canTune
set_option maxRecDepth 20000 in
theorem ggX2_next_X2_tuned : GoodIn wsX2_next wsX2_tuned := goodIn_r _ [45, 2, 39, 40, 6, 41, 46, 47, 48, 49, 50, 51, 52] (by decide +kernel) (by decide +kernel)
set_option maxRecDepth 20000 in
theorem gX2_next_X2_tuned : GoodIn wsX2_next (wsV RX2 91 RX2 yX2_tuned wsX2_tuned) := goodIn_app (goodIn_of _ (by decide +kernel)) ggX2_next_X2_tuned
theorem dX2_next_0 : decode cX2_next 0 = .ok (.aload_n 0, 1) := by decide +kernel
theorem dX2_next_1 : decode cX2_next 1 = .ok (.iconst 0, 1) := by decide +kernel
theorem dX2_next_2 : decode cX2_next 2 = .ok (.putfield 26, 3) := by decide +kernel
theorem dX2_next_5 : decode cX2_next 5 = .ok (.iconst (-1), 1) := by decide +kernel
theorem dX2_next_6 : decode cX2_next 6 = .ok (.istore_n 1, 1) := by decide +kernel
theorem dX2_next_7 : decode cX2_next 7 = .ok (.aload_n 0, 1) := by decide +kernel
theorem dX2_next_8 : decode cX2_next 8 = .ok (.invokevirtual 127, 3) := by decide +kernel
theorem dX2_next_11 : decode cX2_next 11 = .ok (.istore_n 2, 1) := by decide +kernel
theorem dX2_next_12 : decode cX2_next 12 = .ok (.iconst 0, 1) := by decide +kernel
theorem dX2_next_13 : decode cX2_next 13 = .ok (.istore_n 3, 1) := by decide +kernel
theorem dX2_next_14 : decode cX2_next 14 = .ok (.iload_n 3, 1) := by decide +kernel
theorem dX2_next_15 : decode cX2_next 15 = .ok (.bipush 12, 2) := by decide +kernel
theorem dX2_next_17 : decode cX2_next 17 = .ok (.if_icmp .ge 58, 3) := by decide +kernel
theorem dX2_next_20 : decode cX2_next 20 = .ok (.aload_n 0, 1) := by decide +kernel
theorem dX2_next_21 : decode cX2_next 21 = .ok (.iload_n 3, 1) := by decide +kernel
theorem dX2_next_22 : decode cX2_next 22 = .ok (.invokevirtual 88, 3) := by decide +kernel
theorem dX2_next_25 : decode cX2_next 25 = .ok (.ifCond .ne 6, 3) := by decide +kernel
theorem dX2_next_28 : decode cX2_next 28 = .ok (.goto 41, 3) := by decide +kernel
theorem dX2_next_31 : decode cX2_next 31 = .ok (.aload_n 0, 1) := by decide +kernel
theorem dX2_next_32 : decode cX2_next 32 = .ok (.iload_n 3, 1) := by decide +kernel
theorem dX2_next_33 : decode cX2_next 33 = .ok (.invokevirtual 91, 3) := by decide +kernel
theorem dX2_next_36 : decode cX2_next 36 = .ok (.istore 4, 2) := by decide +kernel
theorem dX2_next_38 : decode cX2_next 38 = .ok (.aload_n 0, 1) := by decide +kernel
theorem dX2_next_39 : decode cX2_next 39 = .ok (.invokevirtual 127, 3) := by decide +kernel
theorem dX2_next_42 : decode cX2_next 42 = .ok (.istore 5, 2) := by decide +kernel
theorem dX2_next_44 : decode cX2_next 44 = .ok (.aload_n 0, 1) := by decide +kernel
theorem dX2_next_45 : decode cX2_next 45 = .ok (.getfield 23, 3) := by decide +kernel
theorem dX2_next_48 : decode cX2_next 48 = .ok (.iload_n 3, 1) := by decide +kernel
theorem dX2_next_49 : decode cX2_next 49 = .ok (.dup2, 1) := by decide +kernel
theorem dX2_next_50 : decode cX2_next 50 = .ok (.iaload, 1) := by decide +kernel
theorem dX2_next_51 : decode cX2_next 51 = .ok (.iload 4, 2) := by decide +kernel
theorem dX2_next_53 : decode cX2_next 53 = .ok (.isub, 1) := by decide +kernel
theorem dX2_next_54 : decode cX2_next 54 = .ok (.iastore, 1) := by decide +kernel
theorem dX2_next_55 : decode cX2_next 55 = .ok (.iload 5, 2) := by decide +kernel
theorem dX2_next_57 : decode cX2_next 57 = .ok (.iload_n 2, 1) := by decide +kernel
theorem dX2_next_58 : decode cX2_next 58 = .ok (.if_icmp .lt 6, 3) := by decide +kernel
theorem dX2_next_61 : decode cX2_next 61 = .ok (.goto 8, 3) := by decide +kernel
theorem dX2_next_64 : decode cX2_next 64 = .ok (.iload_n 3, 1) := by decide +kernel
theorem dX2_next_65 : decode cX2_next 65 = .ok (.istore_n 1, 1) := by decide +kernel
theorem dX2_next_66 : decode cX2_next 66 = .ok (.iload 5, 2) := by decide +kernel
theorem dX2_next_68 : decode cX2_next 68 = .ok (.istore_n 2, 1) := by decide +kernel
theorem dX2_next_69 : decode cX2_next 69 = .ok (.iinc 3 1, 3) := by decide +kernel
theorem dX2_next_72 : decode cX2_next 72 = .ok (.goto (-58), 3) := by decide +kernel
theorem dX2_next_75 : decode cX2_next 75 = .ok (.iload_n 1, 1) := by decide +kernel
theorem dX2_next_76 : decode cX2_next 76 = .ok (.ireturn, 1) := by decide +kernel
set_option maxRecDepth 20000 in
theorem ggX2_mean_X2_sour : GoodIn wsX2_mean wsX2_sour := goodIn_r _ [7, 8, 9, 10, 11, 12, 13, 14, 6, 15, 16, 17, 18, 19, 20, 21, 22, 23, 24, 25, 26, 27, 28, 29, 30, 31, 32, 33, 34, 35, 36, 37] (by decide +kernel) (by decide +kernel)
set_option maxRecDepth 20000 in
theorem gX2_mean_X2_sour : GoodIn wsX2_mean (wsV RX2 68 RX2 yX2_sour wsX2_sour) := goodIn_app (goodIn_of _ (by decide +kernel)) ggX2_mean_X2_sour
theorem dX2_mean_0 : decode cX2_mean 0 = .ok (.aload_n 0, 1) := by decide +kernel
theorem dX2_mean_1 : decode cX2_mean 1 = .ok (.iconst 0, 1) := by decide +kernel
theorem dX2_mean_2 : decode cX2_mean 2 = .ok (.putfield 26, 3) := by decide +kernel
theorem dX2_mean_5 : decode cX2_mean 5 = .ok (.iconst 0, 1) := by decide +kernel
theorem dX2_mean_6 : decode cX2_mean 6 = .ok (.istore_n 1, 1) := by decide +kernel
theorem dX2_mean_7 : decode cX2_mean 7 = .ok (.iconst 0, 1) := by decide +kernel
theorem dX2_mean_8 : decode cX2_mean 8 = .ok (.istore_n 2, 1) := by decide +kernel
theorem dX2_mean_9 : decode cX2_mean 9 = .ok (.iload_n 2, 1) := by decide +kernel
theorem dX2_mean_10 : decode cX2_mean 10 = .ok (.bipush 12, 2) := by decide +kernel
theorem dX2_mean_12 : decode cX2_mean 12 = .ok (.if_icmp .ge 17, 3) := by decide +kernel
theorem dX2_mean_15 : decode cX2_mean 15 = .ok (.iload_n 1, 1) := by decide +kernel
theorem dX2_mean_16 : decode cX2_mean 16 = .ok (.aload_n 0, 1) := by decide +kernel
theorem dX2_mean_17 : decode cX2_mean 17 = .ok (.iload_n 2, 1) := by decide +kernel
theorem dX2_mean_18 : decode cX2_mean 18 = .ok (.invokevirtual 68, 3) := by decide +kernel
theorem dX2_mean_21 : decode cX2_mean 21 = .ok (.iadd, 1) := by decide +kernel
theorem dX2_mean_22 : decode cX2_mean 22 = .ok (.istore_n 1, 1) := by decide +kernel
theorem dX2_mean_23 : decode cX2_mean 23 = .ok (.iinc 2 1, 3) := by decide +kernel
theorem dX2_mean_26 : decode cX2_mean 26 = .ok (.goto (-17), 3) := by decide +kernel
theorem dX2_mean_29 : decode cX2_mean 29 = .ok (.iload_n 1, 1) := by decide +kernel
theorem dX2_mean_30 : decode cX2_mean 30 = .ok (.i2d, 1) := by decide +kernel
theorem dX2_mean_31 : decode cX2_mean 31 = .ok (.ldc2_w 147, 3) := by decide +kernel
theorem dX2_mean_34 : decode cX2_mean 34 = .ok (.ddiv, 1) := by decide +kernel
theorem dX2_mean_35 : decode cX2_mean 35 = .ok (.dreturn, 1) := by decide +kernel
set_option maxRecDepth 20000 in
theorem ggX2_digest_X2_counted : GoodIn wsX2_digest wsX2_counted := goodIn_r _ [8, 9, 10, 11, 12, 13, 14, 15, 16, 17, 18, 19, 20, 21, 7, 22, 23, 24, 25, 26, 27, 28, 29, 30, 31, 32, 33, 34, 35, 36, 37, 38, 39, 40, 41, 42, 43, 44, 45, 46, 47, 48, 49, 50, 51, 52, 53, 54, 55, 56, 57, 58, 59, 93, 94, 95, 96, 97, 98, 99] (by decide +kernel) (by decide +kernel)
set_option maxRecDepth 20000 in
theorem gX2_digest_X2_counted : GoodIn wsX2_digest (wsV RX2 134 RX2 yX2_counted wsX2_counted) := goodIn_app (goodIn_of _ (by decide +kernel)) ggX2_digest_X2_counted
set_option maxRecDepth 20000 in
theorem ggX2_digest_X2_fifthTold : GoodIn wsX2_digest wsX2_fifthTold := goodIn_r _ [63, 10, 40, 41, 42, 7, 43, 44, 32, 33, 34, 35, 36, 37, 38, 39, 18, 49, 50, 51, 52, 53, 54, 55, 56, 11, 12, 13, 14, 57, 58, 59, 93, 94, 95, 96, 97, 98, 99] (by decide +kernel) (by decide +kernel)
set_option maxRecDepth 20000 in
theorem gX2_digest_X2_fifthTold : GoodIn wsX2_digest (wsV RX2 103 RX2 yX2_fifthTold wsX2_fifthTold) := goodIn_app (goodIn_of _ (by decide +kernel)) ggX2_digest_X2_fifthTold
set_option maxRecDepth 20000 in
theorem ggX2_digest_X2_majorTold : GoodIn wsX2_digest wsX2_majorTold := goodIn_r _ [67, 28, 29, 30, 7, 31, 32, 33, 34, 35, 36, 37, 38, 39, 18, 40, 41, 42, 43, 10, 44, 53, 54, 55, 56, 11, 12, 13, 14, 57, 58, 59, 93, 94, 95, 96, 97, 98, 99] (by decide +kernel) (by decide +kernel)
set_option maxRecDepth 20000 in
theorem gX2_digest_X2_majorTold : GoodIn wsX2_digest (wsV RX2 106 RX2 yX2_majorTold wsX2_majorTold) := goodIn_app (goodIn_of _ (by decide +kernel)) ggX2_digest_X2_majorTold
set_option maxRecDepth 20000 in
theorem ggX2_digest_X2_minorTold : GoodIn wsX2_digest wsX2_minorTold := goodIn_r _ [71, 72, 73, 74, 7, 75, 32, 33, 34, 35, 36, 37, 38, 39, 18, 40, 41, 42, 43, 10, 44, 93, 94, 95, 96, 97, 98, 99] (by decide +kernel) (by decide +kernel)
set_option maxRecDepth 20000 in
theorem gX2_digest_X2_minorTold : GoodIn wsX2_digest (wsV RX2 112 RX2 yX2_minorTold wsX2_minorTold) := goodIn_app (goodIn_of _ (by decide +kernel)) ggX2_digest_X2_minorTold
set_option maxRecDepth 20000 in
theorem ggX2_digest_X2_noteTold : GoodIn wsX2_digest wsX2_noteTold := goodIn_r _ [79, 18, 80, 56, 57, 58, 7, 59, 32, 33, 34, 35, 36, 37, 38, 39, 40, 41, 42, 43, 10, 44, 81, 82, 83, 84, 93, 94, 95, 96, 97, 98, 99] (by decide +kernel) (by decide +kernel)
set_option maxRecDepth 20000 in
theorem gX2_digest_X2_noteTold : GoodIn wsX2_digest (wsV RX2 118 RX2 yX2_noteTold wsX2_noteTold) := goodIn_app (goodIn_of _ (by decide +kernel)) ggX2_digest_X2_noteTold
set_option maxRecDepth 20000 in
theorem ggX2_digest_X2_keyTold : GoodIn wsX2_digest wsX2_keyTold := goodIn_r _ [88, 23, 24, 25, 26, 7, 27, 11, 12, 13, 14, 28, 29, 30, 31, 32, 33, 34, 35, 36, 37, 38, 39, 18, 40, 41, 42, 43, 10, 44, 89, 90, 91, 92, 93, 94, 95, 96, 97, 98, 99] (by decide +kernel) (by decide +kernel)
set_option maxRecDepth 20000 in
theorem gX2_digest_X2_keyTold : GoodIn wsX2_digest (wsV RX2 124 RX2 yX2_keyTold wsX2_keyTold) := goodIn_app (goodIn_of _ (by decide +kernel)) ggX2_digest_X2_keyTold
theorem dX2_digest_0 : decode cX2_digest 0 = .ok (.aload_n 0, 1) := by decide +kernel
theorem dX2_digest_1 : decode cX2_digest 1 = .ok (.iconst 0, 1) := by decide +kernel
theorem dX2_digest_2 : decode cX2_digest 2 = .ok (.putfield 26, 3) := by decide +kernel
theorem dX2_digest_5 : decode cX2_digest 5 = .ok (.ldc2_w 149, 3) := by decide +kernel
theorem dX2_digest_8 : decode cX2_digest 8 = .ok (.lstore_n 1, 1) := by decide +kernel
theorem dX2_digest_9 : decode cX2_digest 9 = .ok (.iconst 0, 1) := by decide +kernel
theorem dX2_digest_10 : decode cX2_digest 10 = .ok (.istore_n 3, 1) := by decide +kernel
theorem dX2_digest_11 : decode cX2_digest 11 = .ok (.iload_n 3, 1) := by decide +kernel
theorem dX2_digest_12 : decode cX2_digest 12 = .ok (.bipush 7, 2) := by decide +kernel
theorem dX2_digest_14 : decode cX2_digest 14 = .ok (.if_icmp .ge 22, 3) := by decide +kernel
theorem dX2_digest_17 : decode cX2_digest 17 = .ok (.lload_n 1, 1) := by decide +kernel
theorem dX2_digest_18 : decode cX2_digest 18 = .ok (.ldc2_w 151, 3) := by decide +kernel
theorem dX2_digest_21 : decode cX2_digest 21 = .ok (.lmul, 1) := by decide +kernel
theorem dX2_digest_22 : decode cX2_digest 22 = .ok (.aload_n 0, 1) := by decide +kernel
theorem dX2_digest_23 : decode cX2_digest 23 = .ok (.iload_n 3, 1) := by decide +kernel
theorem dX2_digest_24 : decode cX2_digest 24 = .ok (.invokevirtual 134, 3) := by decide +kernel
theorem dX2_digest_27 : decode cX2_digest 27 = .ok (.i2l, 1) := by decide +kernel
theorem dX2_digest_28 : decode cX2_digest 28 = .ok (.ladd, 1) := by decide +kernel
theorem dX2_digest_29 : decode cX2_digest 29 = .ok (.lstore_n 1, 1) := by decide +kernel
theorem dX2_digest_30 : decode cX2_digest 30 = .ok (.iinc 3 1, 3) := by decide +kernel
theorem dX2_digest_33 : decode cX2_digest 33 = .ok (.goto (-22), 3) := by decide +kernel
theorem dX2_digest_36 : decode cX2_digest 36 = .ok (.iconst 0, 1) := by decide +kernel
theorem dX2_digest_37 : decode cX2_digest 37 = .ok (.istore_n 3, 1) := by decide +kernel
theorem dX2_digest_38 : decode cX2_digest 38 = .ok (.iload_n 3, 1) := by decide +kernel
theorem dX2_digest_39 : decode cX2_digest 39 = .ok (.bipush 12, 2) := by decide +kernel
theorem dX2_digest_41 : decode cX2_digest 41 = .ok (.if_icmp .ge 159, 3) := by decide +kernel
theorem dX2_digest_44 : decode cX2_digest 44 = .ok (.iconst 0, 1) := by decide +kernel
theorem dX2_digest_45 : decode cX2_digest 45 = .ok (.istore 4, 2) := by decide +kernel
theorem dX2_digest_47 : decode cX2_digest 47 = .ok (.iload 4, 2) := by decide +kernel
theorem dX2_digest_49 : decode cX2_digest 49 = .ok (.iconst 5, 1) := by decide +kernel
theorem dX2_digest_50 : decode cX2_digest 50 = .ok (.if_icmp .ge 24, 3) := by decide +kernel
theorem dX2_digest_53 : decode cX2_digest 53 = .ok (.lload_n 1, 1) := by decide +kernel
theorem dX2_digest_54 : decode cX2_digest 54 = .ok (.ldc2_w 151, 3) := by decide +kernel
theorem dX2_digest_57 : decode cX2_digest 57 = .ok (.lmul, 1) := by decide +kernel
theorem dX2_digest_58 : decode cX2_digest 58 = .ok (.aload_n 0, 1) := by decide +kernel
theorem dX2_digest_59 : decode cX2_digest 59 = .ok (.iload_n 3, 1) := by decide +kernel
theorem dX2_digest_60 : decode cX2_digest 60 = .ok (.iload 4, 2) := by decide +kernel
theorem dX2_digest_62 : decode cX2_digest 62 = .ok (.invokevirtual 103, 3) := by decide +kernel
theorem dX2_digest_65 : decode cX2_digest 65 = .ok (.i2l, 1) := by decide +kernel
theorem dX2_digest_66 : decode cX2_digest 66 = .ok (.ladd, 1) := by decide +kernel
theorem dX2_digest_67 : decode cX2_digest 67 = .ok (.lstore_n 1, 1) := by decide +kernel
theorem dX2_digest_68 : decode cX2_digest 68 = .ok (.iinc 4 1, 3) := by decide +kernel
theorem dX2_digest_71 : decode cX2_digest 71 = .ok (.goto (-24), 3) := by decide +kernel
theorem dX2_digest_74 : decode cX2_digest 74 = .ok (.iconst 0, 1) := by decide +kernel
theorem dX2_digest_75 : decode cX2_digest 75 = .ok (.istore 4, 2) := by decide +kernel
theorem dX2_digest_77 : decode cX2_digest 77 = .ok (.iload 4, 2) := by decide +kernel
theorem dX2_digest_79 : decode cX2_digest 79 = .ok (.iconst 3, 1) := by decide +kernel
theorem dX2_digest_80 : decode cX2_digest 80 = .ok (.if_icmp .ge 24, 3) := by decide +kernel
theorem dX2_digest_83 : decode cX2_digest 83 = .ok (.lload_n 1, 1) := by decide +kernel
theorem dX2_digest_84 : decode cX2_digest 84 = .ok (.ldc2_w 151, 3) := by decide +kernel
theorem dX2_digest_87 : decode cX2_digest 87 = .ok (.lmul, 1) := by decide +kernel
theorem dX2_digest_88 : decode cX2_digest 88 = .ok (.aload_n 0, 1) := by decide +kernel
theorem dX2_digest_89 : decode cX2_digest 89 = .ok (.iload_n 3, 1) := by decide +kernel
theorem dX2_digest_90 : decode cX2_digest 90 = .ok (.iload 4, 2) := by decide +kernel
theorem dX2_digest_92 : decode cX2_digest 92 = .ok (.invokevirtual 106, 3) := by decide +kernel
theorem dX2_digest_95 : decode cX2_digest 95 = .ok (.i2l, 1) := by decide +kernel
theorem dX2_digest_96 : decode cX2_digest 96 = .ok (.ladd, 1) := by decide +kernel
theorem dX2_digest_97 : decode cX2_digest 97 = .ok (.lstore_n 1, 1) := by decide +kernel
theorem dX2_digest_98 : decode cX2_digest 98 = .ok (.iinc 4 1, 3) := by decide +kernel
theorem dX2_digest_101 : decode cX2_digest 101 = .ok (.goto (-24), 3) := by decide +kernel
theorem dX2_digest_104 : decode cX2_digest 104 = .ok (.iconst 0, 1) := by decide +kernel
theorem dX2_digest_105 : decode cX2_digest 105 = .ok (.istore 4, 2) := by decide +kernel
theorem dX2_digest_107 : decode cX2_digest 107 = .ok (.iload 4, 2) := by decide +kernel
theorem dX2_digest_109 : decode cX2_digest 109 = .ok (.iconst 2, 1) := by decide +kernel
theorem dX2_digest_110 : decode cX2_digest 110 = .ok (.if_icmp .ge 24, 3) := by decide +kernel
theorem dX2_digest_113 : decode cX2_digest 113 = .ok (.lload_n 1, 1) := by decide +kernel
theorem dX2_digest_114 : decode cX2_digest 114 = .ok (.ldc2_w 151, 3) := by decide +kernel
theorem dX2_digest_117 : decode cX2_digest 117 = .ok (.lmul, 1) := by decide +kernel
theorem dX2_digest_118 : decode cX2_digest 118 = .ok (.aload_n 0, 1) := by decide +kernel
theorem dX2_digest_119 : decode cX2_digest 119 = .ok (.iload_n 3, 1) := by decide +kernel
theorem dX2_digest_120 : decode cX2_digest 120 = .ok (.iload 4, 2) := by decide +kernel
theorem dX2_digest_122 : decode cX2_digest 122 = .ok (.invokevirtual 112, 3) := by decide +kernel
theorem dX2_digest_125 : decode cX2_digest 125 = .ok (.i2l, 1) := by decide +kernel
theorem dX2_digest_126 : decode cX2_digest 126 = .ok (.ladd, 1) := by decide +kernel
theorem dX2_digest_127 : decode cX2_digest 127 = .ok (.lstore_n 1, 1) := by decide +kernel
theorem dX2_digest_128 : decode cX2_digest 128 = .ok (.iinc 4 1, 3) := by decide +kernel
theorem dX2_digest_131 : decode cX2_digest 131 = .ok (.goto (-24), 3) := by decide +kernel
theorem dX2_digest_134 : decode cX2_digest 134 = .ok (.iconst 0, 1) := by decide +kernel
theorem dX2_digest_135 : decode cX2_digest 135 = .ok (.istore 4, 2) := by decide +kernel
theorem dX2_digest_137 : decode cX2_digest 137 = .ok (.iload 4, 2) := by decide +kernel
theorem dX2_digest_139 : decode cX2_digest 139 = .ok (.iconst 5, 1) := by decide +kernel
theorem dX2_digest_140 : decode cX2_digest 140 = .ok (.if_icmp .ge 24, 3) := by decide +kernel
theorem dX2_digest_143 : decode cX2_digest 143 = .ok (.lload_n 1, 1) := by decide +kernel
theorem dX2_digest_144 : decode cX2_digest 144 = .ok (.ldc2_w 151, 3) := by decide +kernel
theorem dX2_digest_147 : decode cX2_digest 147 = .ok (.lmul, 1) := by decide +kernel
theorem dX2_digest_148 : decode cX2_digest 148 = .ok (.aload_n 0, 1) := by decide +kernel
theorem dX2_digest_149 : decode cX2_digest 149 = .ok (.iload_n 3, 1) := by decide +kernel
theorem dX2_digest_150 : decode cX2_digest 150 = .ok (.iload 4, 2) := by decide +kernel
theorem dX2_digest_152 : decode cX2_digest 152 = .ok (.invokevirtual 118, 3) := by decide +kernel
theorem dX2_digest_155 : decode cX2_digest 155 = .ok (.i2l, 1) := by decide +kernel
theorem dX2_digest_156 : decode cX2_digest 156 = .ok (.ladd, 1) := by decide +kernel
theorem dX2_digest_157 : decode cX2_digest 157 = .ok (.lstore_n 1, 1) := by decide +kernel
theorem dX2_digest_158 : decode cX2_digest 158 = .ok (.iinc 4 1, 3) := by decide +kernel
theorem dX2_digest_161 : decode cX2_digest 161 = .ok (.goto (-24), 3) := by decide +kernel
theorem dX2_digest_164 : decode cX2_digest 164 = .ok (.iconst 0, 1) := by decide +kernel
theorem dX2_digest_165 : decode cX2_digest 165 = .ok (.istore 4, 2) := by decide +kernel
theorem dX2_digest_167 : decode cX2_digest 167 = .ok (.iload 4, 2) := by decide +kernel
theorem dX2_digest_169 : decode cX2_digest 169 = .ok (.iconst 4, 1) := by decide +kernel
theorem dX2_digest_170 : decode cX2_digest 170 = .ok (.if_icmp .ge 24, 3) := by decide +kernel
theorem dX2_digest_173 : decode cX2_digest 173 = .ok (.lload_n 1, 1) := by decide +kernel
theorem dX2_digest_174 : decode cX2_digest 174 = .ok (.ldc2_w 151, 3) := by decide +kernel
theorem dX2_digest_177 : decode cX2_digest 177 = .ok (.lmul, 1) := by decide +kernel
theorem dX2_digest_178 : decode cX2_digest 178 = .ok (.aload_n 0, 1) := by decide +kernel
theorem dX2_digest_179 : decode cX2_digest 179 = .ok (.iload_n 3, 1) := by decide +kernel
theorem dX2_digest_180 : decode cX2_digest 180 = .ok (.iload 4, 2) := by decide +kernel
theorem dX2_digest_182 : decode cX2_digest 182 = .ok (.invokevirtual 124, 3) := by decide +kernel
theorem dX2_digest_185 : decode cX2_digest 185 = .ok (.i2l, 1) := by decide +kernel
theorem dX2_digest_186 : decode cX2_digest 186 = .ok (.ladd, 1) := by decide +kernel
theorem dX2_digest_187 : decode cX2_digest 187 = .ok (.lstore_n 1, 1) := by decide +kernel
theorem dX2_digest_188 : decode cX2_digest 188 = .ok (.iinc 4 1, 3) := by decide +kernel
theorem dX2_digest_191 : decode cX2_digest 191 = .ok (.goto (-24), 3) := by decide +kernel
theorem dX2_digest_194 : decode cX2_digest 194 = .ok (.iinc 3 1, 3) := by decide +kernel
theorem dX2_digest_197 : decode cX2_digest 197 = .ok (.goto (-159), 3) := by decide +kernel
theorem dX2_digest_200 : decode cX2_digest 200 = .ok (.lload_n 1, 1) := by decide +kernel
theorem dX2_digest_201 : decode cX2_digest 201 = .ok (.lreturn, 1) := by decide +kernel
