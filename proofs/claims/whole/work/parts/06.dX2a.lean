theorem dX2_init_0 : decode cX2_init 0 = .ok (.aload_n 0, 1) := by decide +kernel
theorem dX2_init_1 : decode cX2_init 1 = .ok (.invokespecial 1, 3) := by decide +kernel
theorem dX2_init_4 : decode cX2_init 4 = .ok (.aload_n 0, 1) := by decide +kernel
theorem dX2_init_5 : decode cX2_init 5 = .ok (.bipush 11, 2) := by decide +kernel
theorem dX2_init_7 : decode cX2_init 7 = .ok (.putfield 7, 3) := by decide +kernel
theorem dX2_init_10 : decode cX2_init 10 = .ok (.aload_n 0, 1) := by decide +kernel
theorem dX2_init_11 : decode cX2_init 11 = .ok (.bipush 12, 2) := by decide +kernel
theorem dX2_init_13 : decode cX2_init 13 = .ok (.newarray .int, 2) := by decide +kernel
theorem dX2_init_15 : decode cX2_init 15 = .ok (.putfield 13, 3) := by decide +kernel
theorem dX2_init_18 : decode cX2_init 18 = .ok (.aload_n 0, 1) := by decide +kernel
theorem dX2_init_19 : decode cX2_init 19 = .ok (.bipush 12, 2) := by decide +kernel
theorem dX2_init_21 : decode cX2_init 21 = .ok (.newarray .int, 2) := by decide +kernel
theorem dX2_init_23 : decode cX2_init 23 = .ok (.putfield 17, 3) := by decide +kernel
theorem dX2_init_26 : decode cX2_init 26 = .ok (.aload_n 0, 1) := by decide +kernel
theorem dX2_init_27 : decode cX2_init 27 = .ok (.bipush 12, 2) := by decide +kernel
theorem dX2_init_29 : decode cX2_init 29 = .ok (.newarray .int, 2) := by decide +kernel
theorem dX2_init_31 : decode cX2_init 31 = .ok (.dup, 1) := by decide +kernel
theorem dX2_init_32 : decode cX2_init 32 = .ok (.iconst 0, 1) := by decide +kernel
theorem dX2_init_33 : decode cX2_init 33 = .ok (.iconst 1, 1) := by decide +kernel
theorem dX2_init_34 : decode cX2_init 34 = .ok (.iastore, 1) := by decide +kernel
theorem dX2_init_35 : decode cX2_init 35 = .ok (.dup, 1) := by decide +kernel
theorem dX2_init_36 : decode cX2_init 36 = .ok (.iconst 1, 1) := by decide +kernel
theorem dX2_init_37 : decode cX2_init 37 = .ok (.iconst 1, 1) := by decide +kernel
theorem dX2_init_38 : decode cX2_init 38 = .ok (.iastore, 1) := by decide +kernel
theorem dX2_init_39 : decode cX2_init 39 = .ok (.dup, 1) := by decide +kernel
theorem dX2_init_40 : decode cX2_init 40 = .ok (.iconst 2, 1) := by decide +kernel
theorem dX2_init_41 : decode cX2_init 41 = .ok (.iconst 1, 1) := by decide +kernel
theorem dX2_init_42 : decode cX2_init 42 = .ok (.iastore, 1) := by decide +kernel
theorem dX2_init_43 : decode cX2_init 43 = .ok (.dup, 1) := by decide +kernel
theorem dX2_init_44 : decode cX2_init 44 = .ok (.iconst 3, 1) := by decide +kernel
theorem dX2_init_45 : decode cX2_init 45 = .ok (.iconst 1, 1) := by decide +kernel
theorem dX2_init_46 : decode cX2_init 46 = .ok (.iastore, 1) := by decide +kernel
theorem dX2_init_47 : decode cX2_init 47 = .ok (.dup, 1) := by decide +kernel
theorem dX2_init_48 : decode cX2_init 48 = .ok (.iconst 4, 1) := by decide +kernel
theorem dX2_init_49 : decode cX2_init 49 = .ok (.iconst 1, 1) := by decide +kernel
theorem dX2_init_50 : decode cX2_init 50 = .ok (.iastore, 1) := by decide +kernel
theorem dX2_init_51 : decode cX2_init 51 = .ok (.dup, 1) := by decide +kernel
theorem dX2_init_52 : decode cX2_init 52 = .ok (.iconst 5, 1) := by decide +kernel
theorem dX2_init_53 : decode cX2_init 53 = .ok (.iconst 1, 1) := by decide +kernel
theorem dX2_init_54 : decode cX2_init 54 = .ok (.iastore, 1) := by decide +kernel
theorem dX2_init_55 : decode cX2_init 55 = .ok (.dup, 1) := by decide +kernel
theorem dX2_init_56 : decode cX2_init 56 = .ok (.bipush 6, 2) := by decide +kernel
theorem dX2_init_58 : decode cX2_init 58 = .ok (.iconst 1, 1) := by decide +kernel
theorem dX2_init_59 : decode cX2_init 59 = .ok (.iastore, 1) := by decide +kernel
theorem dX2_init_60 : decode cX2_init 60 = .ok (.dup, 1) := by decide +kernel
theorem dX2_init_61 : decode cX2_init 61 = .ok (.bipush 7, 2) := by decide +kernel
theorem dX2_init_63 : decode cX2_init 63 = .ok (.iconst 1, 1) := by decide +kernel
theorem dX2_init_64 : decode cX2_init 64 = .ok (.iastore, 1) := by decide +kernel
theorem dX2_init_65 : decode cX2_init 65 = .ok (.dup, 1) := by decide +kernel
theorem dX2_init_66 : decode cX2_init 66 = .ok (.bipush 8, 2) := by decide +kernel
theorem dX2_init_68 : decode cX2_init 68 = .ok (.iconst 1, 1) := by decide +kernel
theorem dX2_init_69 : decode cX2_init 69 = .ok (.iastore, 1) := by decide +kernel
theorem dX2_init_70 : decode cX2_init 70 = .ok (.dup, 1) := by decide +kernel
theorem dX2_init_71 : decode cX2_init 71 = .ok (.bipush 9, 2) := by decide +kernel
theorem dX2_init_73 : decode cX2_init 73 = .ok (.iconst 1, 1) := by decide +kernel
theorem dX2_init_74 : decode cX2_init 74 = .ok (.iastore, 1) := by decide +kernel
theorem dX2_init_75 : decode cX2_init 75 = .ok (.dup, 1) := by decide +kernel
theorem dX2_init_76 : decode cX2_init 76 = .ok (.bipush 10, 2) := by decide +kernel
theorem dX2_init_78 : decode cX2_init 78 = .ok (.iconst 1, 1) := by decide +kernel
theorem dX2_init_79 : decode cX2_init 79 = .ok (.iastore, 1) := by decide +kernel
theorem dX2_init_80 : decode cX2_init 80 = .ok (.dup, 1) := by decide +kernel
theorem dX2_init_81 : decode cX2_init 81 = .ok (.bipush 11, 2) := by decide +kernel
theorem dX2_init_83 : decode cX2_init 83 = .ok (.iconst 1, 1) := by decide +kernel
theorem dX2_init_84 : decode cX2_init 84 = .ok (.iastore, 1) := by decide +kernel
theorem dX2_init_85 : decode cX2_init 85 = .ok (.putfield 20, 3) := by decide +kernel
theorem dX2_init_88 : decode cX2_init 88 = .ok (.aload_n 0, 1) := by decide +kernel
theorem dX2_init_89 : decode cX2_init 89 = .ok (.bipush 12, 2) := by decide +kernel
theorem dX2_init_91 : decode cX2_init 91 = .ok (.newarray .int, 2) := by decide +kernel
theorem dX2_init_93 : decode cX2_init 93 = .ok (.putfield 23, 3) := by decide +kernel
theorem dX2_init_96 : decode cX2_init 96 = .ok (.return_, 1) := by decide +kernel
theorem dX2_thrown_0 : decode cX2_thrown 0 = .ok (.aload_n 0, 1) := by decide +kernel
theorem dX2_thrown_1 : decode cX2_thrown 1 = .ok (.getfield 26, 3) := by decide +kernel
theorem dX2_thrown_4 : decode cX2_thrown 4 = .ok (.ireturn, 1) := by decide +kernel
theorem dX2_no_0 : decode cX2_no 0 = .ok (.aload_n 0, 1) := by decide +kernel
theorem dX2_no_1 : decode cX2_no 1 = .ok (.iload_n 1, 1) := by decide +kernel
theorem dX2_no_2 : decode cX2_no 2 = .ok (.putfield 26, 3) := by decide +kernel
theorem dX2_no_5 : decode cX2_no 5 = .ok (.iconst 0, 1) := by decide +kernel
theorem dX2_no_6 : decode cX2_no 6 = .ok (.ireturn, 1) := by decide +kernel
theorem dX2_isIn_0 : decode cX2_isIn 0 = .ok (.iload_n 0, 1) := by decide +kernel
theorem dX2_isIn_1 : decode cX2_isIn 1 = .ok (.iload_n 1, 1) := by decide +kernel
theorem dX2_isIn_2 : decode cX2_isIn 2 = .ok (.if_icmp .lt 12, 3) := by decide +kernel
theorem dX2_isIn_5 : decode cX2_isIn 5 = .ok (.iload_n 0, 1) := by decide +kernel
theorem dX2_isIn_6 : decode cX2_isIn 6 = .ok (.iload_n 2, 1) := by decide +kernel
theorem dX2_isIn_7 : decode cX2_isIn 7 = .ok (.if_icmp .gt 7, 3) := by decide +kernel
theorem dX2_isIn_10 : decode cX2_isIn 10 = .ok (.iconst 1, 1) := by decide +kernel
theorem dX2_isIn_11 : decode cX2_isIn 11 = .ok (.goto 4, 3) := by decide +kernel
theorem dX2_isIn_14 : decode cX2_isIn 14 = .ok (.iconst 0, 1) := by decide +kernel
theorem dX2_isIn_15 : decode cX2_isIn 15 = .ok (.ireturn, 1) := by decide +kernel
set_option maxRecDepth 20000 in
theorem ggX2_isOne_X2_isIn : GoodIn wsX2_isOne wsX2_isIn := goodIn_r _ [4] (by decide +kernel) (by decide +kernel)
set_option maxRecDepth 20000 in
theorem gX2_isOne_X2_isIn : GoodIn wsX2_isOne (va_wsS RX2 29 yX2_isIn wsX2_isIn) := goodIn_app (goodIn_of _ (by decide +kernel)) ggX2_isOne_X2_isIn
theorem dX2_isOne_0 : decode cX2_isOne 0 = .ok (.iload_n 0, 1) := by decide +kernel
theorem dX2_isOne_1 : decode cX2_isOne 1 = .ok (.iconst 0, 1) := by decide +kernel
theorem dX2_isOne_2 : decode cX2_isOne 2 = .ok (.bipush 11, 2) := by decide +kernel
theorem dX2_isOne_4 : decode cX2_isOne 4 = .ok (.invokestatic 29, 3) := by decide +kernel
theorem dX2_isOne_7 : decode cX2_isOne 7 = .ok (.ireturn, 1) := by decide +kernel
theorem dX2_held_0 : decode cX2_held 0 = .ok (.bipush (-50), 2) := by decide +kernel
theorem dX2_held_2 : decode cX2_held 2 = .ok (.bipush 50, 2) := by decide +kernel
theorem dX2_held_4 : decode cX2_held 4 = .ok (.iload_n 0, 1) := by decide +kernel
theorem dX2_held_5 : decode cX2_held 5 = .ok (.invokestatic 33, 3) := by decide +kernel
theorem dX2_held_8 : decode cX2_held 8 = .ok (.invokestatic 39, 3) := by decide +kernel
theorem dX2_held_11 : decode cX2_held 11 = .ok (.ireturn, 1) := by decide +kernel
theorem dX2_planOf_0 : decode cX2_planOf 0 = .ok (.iload_n 1, 1) := by decide +kernel
theorem dX2_planOf_1 : decode cX2_planOf 1 = .ok (.bipush 12, 2) := by decide +kernel
theorem dX2_planOf_3 : decode cX2_planOf 3 = .ok (.irem, 1) := by decide +kernel
theorem dX2_planOf_4 : decode cX2_planOf 4 = .ok (.istore_n 2, 1) := by decide +kernel
theorem dX2_planOf_5 : decode cX2_planOf 5 = .ok (.iload_n 2, 1) := by decide +kernel
theorem dX2_planOf_6 : decode cX2_planOf 6 = .ok (.aload_n 0, 1) := by decide +kernel
theorem dX2_planOf_7 : decode cX2_planOf 7 = .ok (.getfield 7, 3) := by decide +kernel
theorem dX2_planOf_10 : decode cX2_planOf 10 = .ok (.if_icmp .eq 10, 3) := by decide +kernel
theorem dX2_planOf_13 : decode cX2_planOf 13 = .ok (.aload_n 0, 1) := by decide +kernel
theorem dX2_planOf_14 : decode cX2_planOf 14 = .ok (.getfield 13, 3) := by decide +kernel
theorem dX2_planOf_17 : decode cX2_planOf 17 = .ok (.iload_n 2, 1) := by decide +kernel
theorem dX2_planOf_18 : decode cX2_planOf 18 = .ok (.iaload, 1) := by decide +kernel
theorem dX2_planOf_19 : decode cX2_planOf 19 = .ok (.ireturn, 1) := by decide +kernel
theorem dX2_planOf_20 : decode cX2_planOf 20 = .ok (.bipush 24, 2) := by decide +kernel
theorem dX2_planOf_22 : decode cX2_planOf 22 = .ok (.istore_n 3, 1) := by decide +kernel
theorem dX2_planOf_23 : decode cX2_planOf 23 = .ok (.iconst 0, 1) := by decide +kernel
theorem dX2_planOf_24 : decode cX2_planOf 24 = .ok (.istore 4, 2) := by decide +kernel
theorem dX2_planOf_26 : decode cX2_planOf 26 = .ok (.iload 4, 2) := by decide +kernel
theorem dX2_planOf_28 : decode cX2_planOf 28 = .ok (.bipush 12, 2) := by decide +kernel
theorem dX2_planOf_30 : decode cX2_planOf 30 = .ok (.if_icmp .ge 32, 3) := by decide +kernel
theorem dX2_planOf_33 : decode cX2_planOf 33 = .ok (.iload_n 3, 1) := by decide +kernel
theorem dX2_planOf_34 : decode cX2_planOf 34 = .ok (.iload 4, 2) := by decide +kernel
theorem dX2_planOf_36 : decode cX2_planOf 36 = .ok (.aload_n 0, 1) := by decide +kernel
theorem dX2_planOf_37 : decode cX2_planOf 37 = .ok (.getfield 7, 3) := by decide +kernel
theorem dX2_planOf_40 : decode cX2_planOf 40 = .ok (.if_icmp .ne 7, 3) := by decide +kernel
theorem dX2_planOf_43 : decode cX2_planOf 43 = .ok (.iconst 0, 1) := by decide +kernel
theorem dX2_planOf_44 : decode cX2_planOf 44 = .ok (.goto 10, 3) := by decide +kernel
theorem dX2_planOf_47 : decode cX2_planOf 47 = .ok (.aload_n 0, 1) := by decide +kernel
theorem dX2_planOf_48 : decode cX2_planOf 48 = .ok (.getfield 13, 3) := by decide +kernel
theorem dX2_planOf_51 : decode cX2_planOf 51 = .ok (.iload 4, 2) := by decide +kernel
theorem dX2_planOf_53 : decode cX2_planOf 53 = .ok (.iaload, 1) := by decide +kernel
theorem dX2_planOf_54 : decode cX2_planOf 54 = .ok (.isub, 1) := by decide +kernel
theorem dX2_planOf_55 : decode cX2_planOf 55 = .ok (.istore_n 3, 1) := by decide +kernel
theorem dX2_planOf_56 : decode cX2_planOf 56 = .ok (.iinc 4 1, 3) := by decide +kernel
theorem dX2_planOf_59 : decode cX2_planOf 59 = .ok (.goto (-33), 3) := by decide +kernel
theorem dX2_planOf_62 : decode cX2_planOf 62 = .ok (.iload_n 3, 1) := by decide +kernel
theorem dX2_planOf_63 : decode cX2_planOf 63 = .ok (.ireturn, 1) := by decide +kernel
theorem dX2_offOf_0 : decode cX2_offOf 0 = .ok (.aload_n 0, 1) := by decide +kernel
theorem dX2_offOf_1 : decode cX2_offOf 1 = .ok (.getfield 23, 3) := by decide +kernel
theorem dX2_offOf_4 : decode cX2_offOf 4 = .ok (.iload_n 1, 1) := by decide +kernel
theorem dX2_offOf_5 : decode cX2_offOf 5 = .ok (.bipush 12, 2) := by decide +kernel
theorem dX2_offOf_7 : decode cX2_offOf 7 = .ok (.irem, 1) := by decide +kernel
theorem dX2_offOf_8 : decode cX2_offOf 8 = .ok (.iaload, 1) := by decide +kernel
theorem dX2_offOf_9 : decode cX2_offOf 9 = .ok (.ireturn, 1) := by decide +kernel
set_option maxRecDepth 20000 in
theorem ggX2_narrow_X2_offOf : GoodIn wsX2_narrow wsX2_offOf := goodIn_r _ [5, 6, 13, 14, 15, 16, 17, 18, 19] (by decide +kernel) (by decide +kernel)
set_option maxRecDepth 20000 in
theorem gX2_narrow_X2_offOf : GoodIn wsX2_narrow (wsV RX2 42 RX2 yX2_offOf wsX2_offOf) := goodIn_app (goodIn_of _ (by decide +kernel)) ggX2_narrow_X2_offOf
set_option maxRecDepth 20000 in
theorem ggX2_narrow_X2_planOf : GoodIn wsX2_narrow wsX2_planOf := goodIn_r _ [10, 11, 12, 13, 14, 15, 16, 17, 18, 19] (by decide +kernel) (by decide +kernel)
set_option maxRecDepth 20000 in
theorem gX2_narrow_X2_planOf : GoodIn wsX2_narrow (wsV RX2 46 RX2 yX2_planOf wsX2_planOf) := goodIn_app (goodIn_of _ (by decide +kernel)) ggX2_narrow_X2_planOf
theorem dX2_narrow_0 : decode cX2_narrow 0 = .ok (.aload_n 0, 1) := by decide +kernel
theorem dX2_narrow_1 : decode cX2_narrow 1 = .ok (.iload_n 1, 1) := by decide +kernel
theorem dX2_narrow_2 : decode cX2_narrow 2 = .ok (.invokevirtual 42, 3) := by decide +kernel
theorem dX2_narrow_5 : decode cX2_narrow 5 = .ok (.aload_n 0, 1) := by decide +kernel
theorem dX2_narrow_6 : decode cX2_narrow 6 = .ok (.iload_n 1, 1) := by decide +kernel
theorem dX2_narrow_7 : decode cX2_narrow 7 = .ok (.iload_n 2, 1) := by decide +kernel
theorem dX2_narrow_8 : decode cX2_narrow 8 = .ok (.iadd, 1) := by decide +kernel
theorem dX2_narrow_9 : decode cX2_narrow 9 = .ok (.invokevirtual 42, 3) := by decide +kernel
theorem dX2_narrow_12 : decode cX2_narrow 12 = .ok (.isub, 1) := by decide +kernel
theorem dX2_narrow_13 : decode cX2_narrow 13 = .ok (.istore_n 3, 1) := by decide +kernel
theorem dX2_narrow_14 : decode cX2_narrow 14 = .ok (.iload_n 1, 1) := by decide +kernel
theorem dX2_narrow_15 : decode cX2_narrow 15 = .ok (.istore 4, 2) := by decide +kernel
theorem dX2_narrow_17 : decode cX2_narrow 17 = .ok (.iload 4, 2) := by decide +kernel
theorem dX2_narrow_19 : decode cX2_narrow 19 = .ok (.iload_n 1, 1) := by decide +kernel
theorem dX2_narrow_20 : decode cX2_narrow 20 = .ok (.iload_n 2, 1) := by decide +kernel
theorem dX2_narrow_21 : decode cX2_narrow 21 = .ok (.iadd, 1) := by decide +kernel
theorem dX2_narrow_22 : decode cX2_narrow 22 = .ok (.if_icmp .ge 18, 3) := by decide +kernel
theorem dX2_narrow_25 : decode cX2_narrow 25 = .ok (.iload_n 3, 1) := by decide +kernel
theorem dX2_narrow_26 : decode cX2_narrow 26 = .ok (.aload_n 0, 1) := by decide +kernel
theorem dX2_narrow_27 : decode cX2_narrow 27 = .ok (.iload 4, 2) := by decide +kernel
theorem dX2_narrow_29 : decode cX2_narrow 29 = .ok (.invokevirtual 46, 3) := by decide +kernel
theorem dX2_narrow_32 : decode cX2_narrow 32 = .ok (.iadd, 1) := by decide +kernel
theorem dX2_narrow_33 : decode cX2_narrow 33 = .ok (.istore_n 3, 1) := by decide +kernel
theorem dX2_narrow_34 : decode cX2_narrow 34 = .ok (.iinc 4 1, 3) := by decide +kernel
theorem dX2_narrow_37 : decode cX2_narrow 37 = .ok (.goto (-20), 3) := by decide +kernel
theorem dX2_narrow_40 : decode cX2_narrow 40 = .ok (.iload_n 3, 1) := by decide +kernel
theorem dX2_narrow_41 : decode cX2_narrow 41 = .ok (.ireturn, 1) := by decide +kernel
set_option maxRecDepth 20000 in
theorem ggX2_majorOff_X2_narrow : GoodIn wsX2_majorOff wsX2_narrow := goodIn_r _ [5, 6, 7, 8, 4, 9, 10, 11, 12, 13, 14, 15, 16, 17, 18, 19, 20, 21, 22, 23] (by decide +kernel) (by decide +kernel)
set_option maxRecDepth 20000 in
theorem gX2_majorOff_X2_narrow : GoodIn wsX2_majorOff (wsV RX2 49 RX2 yX2_narrow wsX2_narrow) := goodIn_app (goodIn_of _ (by decide +kernel)) ggX2_majorOff_X2_narrow
theorem dX2_majorOff_0 : decode cX2_majorOff 0 = .ok (.sipush 408, 3) := by decide +kernel
theorem dX2_majorOff_3 : decode cX2_majorOff 3 = .ok (.aload_n 0, 1) := by decide +kernel
theorem dX2_majorOff_4 : decode cX2_majorOff 4 = .ok (.iload_n 1, 1) := by decide +kernel
theorem dX2_majorOff_5 : decode cX2_majorOff 5 = .ok (.iconst 4, 1) := by decide +kernel
theorem dX2_majorOff_6 : decode cX2_majorOff 6 = .ok (.invokevirtual 49, 3) := by decide +kernel
theorem dX2_majorOff_9 : decode cX2_majorOff 9 = .ok (.isub, 1) := by decide +kernel
theorem dX2_majorOff_10 : decode cX2_majorOff 10 = .ok (.sipush 386, 3) := by decide +kernel
theorem dX2_majorOff_13 : decode cX2_majorOff 13 = .ok (.isub, 1) := by decide +kernel
theorem dX2_majorOff_14 : decode cX2_majorOff 14 = .ok (.ireturn, 1) := by decide +kernel
set_option maxRecDepth 20000 in
theorem ggX2_minorOff_X2_narrow : GoodIn wsX2_minorOff wsX2_narrow := goodIn_r _ [5, 6, 7, 8, 4, 9, 10, 11, 12, 13, 14, 15, 16, 17, 18, 19, 20, 21, 22, 23] (by decide +kernel) (by decide +kernel)
set_option maxRecDepth 20000 in
theorem gX2_minorOff_X2_narrow : GoodIn wsX2_minorOff (wsV RX2 49 RX2 yX2_narrow wsX2_narrow) := goodIn_app (goodIn_of _ (by decide +kernel)) ggX2_minorOff_X2_narrow
theorem dX2_minorOff_0 : decode cX2_minorOff 0 = .ok (.sipush 294, 3) := by decide +kernel
theorem dX2_minorOff_3 : decode cX2_minorOff 3 = .ok (.aload_n 0, 1) := by decide +kernel
theorem dX2_minorOff_4 : decode cX2_minorOff 4 = .ok (.iload_n 1, 1) := by decide +kernel
theorem dX2_minorOff_5 : decode cX2_minorOff 5 = .ok (.bipush 9, 2) := by decide +kernel
theorem dX2_minorOff_7 : decode cX2_minorOff 7 = .ok (.iadd, 1) := by decide +kernel
theorem dX2_minorOff_8 : decode cX2_minorOff 8 = .ok (.iconst 3, 1) := by decide +kernel
theorem dX2_minorOff_9 : decode cX2_minorOff 9 = .ok (.invokevirtual 49, 3) := by decide +kernel
theorem dX2_minorOff_12 : decode cX2_minorOff 12 = .ok (.iadd, 1) := by decide +kernel
theorem dX2_minorOff_13 : decode cX2_minorOff 13 = .ok (.sipush 316, 3) := by decide +kernel
theorem dX2_minorOff_16 : decode cX2_minorOff 16 = .ok (.isub, 1) := by decide +kernel
theorem dX2_minorOff_17 : decode cX2_minorOff 17 = .ok (.ireturn, 1) := by decide +kernel
theorem dX2_keyOf_0 : decode cX2_keyOf 0 = .ok (.bipush 7, 2) := by decide +kernel
theorem dX2_keyOf_2 : decode cX2_keyOf 2 = .ok (.iload_n 0, 1) := by decide +kernel
theorem dX2_keyOf_3 : decode cX2_keyOf 3 = .ok (.imul, 1) := by decide +kernel
theorem dX2_keyOf_4 : decode cX2_keyOf 4 = .ok (.bipush 12, 2) := by decide +kernel
theorem dX2_keyOf_6 : decode cX2_keyOf 6 = .ok (.irem, 1) := by decide +kernel
theorem dX2_keyOf_7 : decode cX2_keyOf 7 = .ok (.ireturn, 1) := by decide +kernel
set_option maxRecDepth 20000 in
theorem ggX2_beats_X2_keyOf : GoodIn wsX2_beats wsX2_keyOf := goodIn_r _ [9] (by decide +kernel) (by decide +kernel)
set_option maxRecDepth 20000 in
theorem gX2_beats_X2_keyOf : GoodIn wsX2_beats (va_wsS RX2 55 yX2_keyOf wsX2_keyOf) := goodIn_app (goodIn_of _ (by decide +kernel)) ggX2_beats_X2_keyOf
theorem dX2_beats_0 : decode cX2_beats 0 = .ok (.getstatic 52, 3) := by decide +kernel
theorem dX2_beats_3 : decode cX2_beats 3 = .ok (.iload_n 0, 1) := by decide +kernel
theorem dX2_beats_4 : decode cX2_beats 4 = .ok (.invokestatic 55, 3) := by decide +kernel
theorem dX2_beats_7 : decode cX2_beats 7 = .ok (.iaload, 1) := by decide +kernel
theorem dX2_beats_8 : decode cX2_beats 8 = .ok (.iload_n 1, 1) := by decide +kernel
theorem dX2_beats_9 : decode cX2_beats 9 = .ok (.invokestatic 58, 3) := by decide +kernel
theorem dX2_beats_12 : decode cX2_beats 12 = .ok (.imul, 1) := by decide +kernel
theorem dX2_beats_13 : decode cX2_beats 13 = .ok (.bipush 100, 2) := by decide +kernel
theorem dX2_beats_15 : decode cX2_beats 15 = .ok (.imul, 1) := by decide +kernel
theorem dX2_beats_16 : decode cX2_beats 16 = .ok (.iload_n 2, 1) := by decide +kernel
theorem dX2_beats_17 : decode cX2_beats 17 = .ok (.idiv, 1) := by decide +kernel
theorem dX2_beats_18 : decode cX2_beats 18 = .ok (.ireturn, 1) := by decide +kernel
set_option maxRecDepth 20000 in
theorem ggX2_fifthBeats_X2_narrow : GoodIn wsX2_fifthBeats wsX2_narrow := goodIn_r _ [5, 6, 7, 8, 4, 9, 10, 11, 12, 13, 14, 15, 16, 28, 29, 30, 31, 32, 33, 34] (by decide +kernel) (by decide +kernel)
set_option maxRecDepth 20000 in
theorem gX2_fifthBeats_X2_narrow : GoodIn wsX2_fifthBeats (wsV RX2 49 RX2 yX2_narrow wsX2_narrow) := goodIn_app (goodIn_of _ (by decide +kernel)) ggX2_fifthBeats_X2_narrow
set_option maxRecDepth 20000 in
theorem ggX2_fifthBeats_X2_beats : GoodIn wsX2_fifthBeats wsX2_beats := goodIn_r _ [19, 20, 21, 22, 23, 24, 25, 26, 4, 27] (by decide +kernel) (by decide +kernel)
set_option maxRecDepth 20000 in
theorem gX2_fifthBeats_X2_beats : GoodIn wsX2_fifthBeats (va_wsS RX2 61 yX2_beats wsX2_beats) := goodIn_app (goodIn_of _ (by decide +kernel)) ggX2_fifthBeats_X2_beats
theorem dX2_fifthBeats_0 : decode cX2_fifthBeats 0 = .ok (.iload_n 1, 1) := by decide +kernel
theorem dX2_fifthBeats_1 : decode cX2_fifthBeats 1 = .ok (.aload_n 0, 1) := by decide +kernel
theorem dX2_fifthBeats_2 : decode cX2_fifthBeats 2 = .ok (.iload_n 1, 1) := by decide +kernel
theorem dX2_fifthBeats_3 : decode cX2_fifthBeats 3 = .ok (.iconst 1, 1) := by decide +kernel
theorem dX2_fifthBeats_4 : decode cX2_fifthBeats 4 = .ok (.invokevirtual 49, 3) := by decide +kernel
theorem dX2_fifthBeats_7 : decode cX2_fifthBeats 7 = .ok (.sipush 577, 3) := by decide +kernel
theorem dX2_fifthBeats_10 : decode cX2_fifthBeats 10 = .ok (.invokestatic 61, 3) := by decide +kernel
theorem dX2_fifthBeats_13 : decode cX2_fifthBeats 13 = .ok (.ireturn, 1) := by decide +kernel
set_option maxRecDepth 20000 in
theorem ggX2_sour_X2_majorOff : GoodIn wsX2_sour wsX2_majorOff := goodIn_r _ [9, 10, 11, 12, 8, 13, 14, 15, 16, 17, 18, 19, 20, 21, 22, 23, 24, 25, 26, 27, 28, 29, 30, 31] (by decide +kernel) (by decide +kernel)
set_option maxRecDepth 20000 in
theorem gX2_sour_X2_majorOff : GoodIn wsX2_sour (wsV RX2 65 RX2 yX2_majorOff wsX2_majorOff) := goodIn_app (goodIn_of _ (by decide +kernel)) ggX2_sour_X2_majorOff
set_option maxRecDepth 20000 in
theorem ggX2_sour_X2_narrow : GoodIn wsX2_sour wsX2_narrow := goodIn_r _ [13, 14, 15, 16, 8, 17, 18, 19, 20, 21, 22, 23, 24, 25, 26, 27, 28, 29, 30, 31] (by decide +kernel) (by decide +kernel)
set_option maxRecDepth 20000 in
theorem gX2_sour_X2_narrow : GoodIn wsX2_sour (wsV RX2 49 RX2 yX2_narrow wsX2_narrow) := goodIn_app (goodIn_of _ (by decide +kernel)) ggX2_sour_X2_narrow
theorem dX2_sour_0 : decode cX2_sour 0 = .ok (.aload_n 0, 1) := by decide +kernel
theorem dX2_sour_1 : decode cX2_sour 1 = .ok (.iload_n 1, 1) := by decide +kernel
theorem dX2_sour_2 : decode cX2_sour 2 = .ok (.invokevirtual 65, 3) := by decide +kernel
theorem dX2_sour_5 : decode cX2_sour 5 = .ok (.invokestatic 58, 3) := by decide +kernel
theorem dX2_sour_8 : decode cX2_sour 8 = .ok (.iconst 2, 1) := by decide +kernel
theorem dX2_sour_9 : decode cX2_sour 9 = .ok (.aload_n 0, 1) := by decide +kernel
theorem dX2_sour_10 : decode cX2_sour 10 = .ok (.iload_n 1, 1) := by decide +kernel
theorem dX2_sour_11 : decode cX2_sour 11 = .ok (.iconst 1, 1) := by decide +kernel
theorem dX2_sour_12 : decode cX2_sour 12 = .ok (.invokevirtual 49, 3) := by decide +kernel
theorem dX2_sour_15 : decode cX2_sour 15 = .ok (.invokestatic 58, 3) := by decide +kernel
theorem dX2_sour_18 : decode cX2_sour 18 = .ok (.imul, 1) := by decide +kernel
theorem dX2_sour_19 : decode cX2_sour 19 = .ok (.iadd, 1) := by decide +kernel
theorem dX2_sour_20 : decode cX2_sour 20 = .ok (.ireturn, 1) := by decide +kernel
set_option maxRecDepth 20000 in
theorem ggX2_costs_X2_sour : GoodIn wsX2_costs wsX2_sour := goodIn_r _ [6, 7, 8, 9, 10, 11, 12, 13, 5, 14, 15, 16, 17, 18, 19, 20, 21, 22, 23, 24, 25, 26, 27, 28, 29, 30, 31, 32, 33, 34, 35, 36] (by decide +kernel) (by decide +kernel)
set_option maxRecDepth 20000 in
theorem gX2_costs_X2_sour : GoodIn wsX2_costs (wsV RX2 68 RX2 yX2_sour wsX2_sour) := goodIn_app (goodIn_of _ (by decide +kernel)) ggX2_costs_X2_sour
theorem dX2_costs_0 : decode cX2_costs 0 = .ok (.iconst 0, 1) := by decide +kernel
theorem dX2_costs_1 : decode cX2_costs 1 = .ok (.istore_n 1, 1) := by decide +kernel
theorem dX2_costs_2 : decode cX2_costs 2 = .ok (.iconst 0, 1) := by decide +kernel
theorem dX2_costs_3 : decode cX2_costs 3 = .ok (.istore_n 2, 1) := by decide +kernel
theorem dX2_costs_4 : decode cX2_costs 4 = .ok (.iload_n 2, 1) := by decide +kernel
theorem dX2_costs_5 : decode cX2_costs 5 = .ok (.bipush 12, 2) := by decide +kernel
theorem dX2_costs_7 : decode cX2_costs 7 = .ok (.if_icmp .ge 24, 3) := by decide +kernel
theorem dX2_costs_10 : decode cX2_costs 10 = .ok (.iload_n 1, 1) := by decide +kernel
theorem dX2_costs_11 : decode cX2_costs 11 = .ok (.aload_n 0, 1) := by decide +kernel
theorem dX2_costs_12 : decode cX2_costs 12 = .ok (.getfield 20, 3) := by decide +kernel
theorem dX2_costs_15 : decode cX2_costs 15 = .ok (.iload_n 2, 1) := by decide +kernel
theorem dX2_costs_16 : decode cX2_costs 16 = .ok (.iaload, 1) := by decide +kernel
theorem dX2_costs_17 : decode cX2_costs 17 = .ok (.aload_n 0, 1) := by decide +kernel
theorem dX2_costs_18 : decode cX2_costs 18 = .ok (.iload_n 2, 1) := by decide +kernel
theorem dX2_costs_19 : decode cX2_costs 19 = .ok (.invokevirtual 68, 3) := by decide +kernel
theorem dX2_costs_22 : decode cX2_costs 22 = .ok (.imul, 1) := by decide +kernel
theorem dX2_costs_23 : decode cX2_costs 23 = .ok (.iadd, 1) := by decide +kernel
theorem dX2_costs_24 : decode cX2_costs 24 = .ok (.istore_n 1, 1) := by decide +kernel
theorem dX2_costs_25 : decode cX2_costs 25 = .ok (.iinc 2 1, 3) := by decide +kernel
theorem dX2_costs_28 : decode cX2_costs 28 = .ok (.goto (-24), 3) := by decide +kernel
theorem dX2_costs_31 : decode cX2_costs 31 = .ok (.iload_n 1, 1) := by decide +kernel
theorem dX2_costs_32 : decode cX2_costs 32 = .ok (.ireturn, 1) := by decide +kernel
set_option maxRecDepth 20000 in
theorem ggX2_place_X2_sour : GoodIn wsX2_place wsX2_sour := goodIn_r _ [5, 6, 7, 8, 9, 10, 11, 12, 4, 13, 14, 15, 16, 17, 18, 19, 20, 21, 22, 23, 24, 25, 26, 27, 28, 29, 30, 31, 32, 33, 34, 35] (by decide +kernel) (by decide +kernel)
set_option maxRecDepth 20000 in
theorem gX2_place_X2_sour : GoodIn wsX2_place (wsV RX2 68 RX2 yX2_sour wsX2_sour) := goodIn_app (goodIn_of _ (by decide +kernel)) ggX2_place_X2_sour
theorem dX2_place_0 : decode cX2_place 0 = .ok (.iconst 1, 1) := by decide +kernel
theorem dX2_place_1 : decode cX2_place 1 = .ok (.istore_n 2, 1) := by decide +kernel
theorem dX2_place_2 : decode cX2_place 2 = .ok (.iconst 0, 1) := by decide +kernel
theorem dX2_place_3 : decode cX2_place 3 = .ok (.istore_n 3, 1) := by decide +kernel
theorem dX2_place_4 : decode cX2_place 4 = .ok (.iload_n 3, 1) := by decide +kernel
theorem dX2_place_5 : decode cX2_place 5 = .ok (.bipush 12, 2) := by decide +kernel
theorem dX2_place_7 : decode cX2_place 7 = .ok (.if_icmp .ge 48, 3) := by decide +kernel
theorem dX2_place_10 : decode cX2_place 10 = .ok (.iload_n 2, 1) := by decide +kernel
theorem dX2_place_11 : decode cX2_place 11 = .ok (.aload_n 0, 1) := by decide +kernel
theorem dX2_place_12 : decode cX2_place 12 = .ok (.iload_n 3, 1) := by decide +kernel
theorem dX2_place_13 : decode cX2_place 13 = .ok (.invokevirtual 68, 3) := by decide +kernel
theorem dX2_place_16 : decode cX2_place 16 = .ok (.aload_n 0, 1) := by decide +kernel
theorem dX2_place_17 : decode cX2_place 17 = .ok (.iload_n 1, 1) := by decide +kernel
theorem dX2_place_18 : decode cX2_place 18 = .ok (.invokevirtual 68, 3) := by decide +kernel
theorem dX2_place_21 : decode cX2_place 21 = .ok (.if_icmp .lt 21, 3) := by decide +kernel
theorem dX2_place_24 : decode cX2_place 24 = .ok (.aload_n 0, 1) := by decide +kernel
theorem dX2_place_25 : decode cX2_place 25 = .ok (.iload_n 3, 1) := by decide +kernel
theorem dX2_place_26 : decode cX2_place 26 = .ok (.invokevirtual 68, 3) := by decide +kernel
theorem dX2_place_29 : decode cX2_place 29 = .ok (.aload_n 0, 1) := by decide +kernel
theorem dX2_place_30 : decode cX2_place 30 = .ok (.iload_n 1, 1) := by decide +kernel
theorem dX2_place_31 : decode cX2_place 31 = .ok (.invokevirtual 68, 3) := by decide +kernel
theorem dX2_place_34 : decode cX2_place 34 = .ok (.if_icmp .ne 12, 3) := by decide +kernel
theorem dX2_place_37 : decode cX2_place 37 = .ok (.iload_n 3, 1) := by decide +kernel
theorem dX2_place_38 : decode cX2_place 38 = .ok (.iload_n 1, 1) := by decide +kernel
theorem dX2_place_39 : decode cX2_place 39 = .ok (.if_icmp .ge 7, 3) := by decide +kernel
theorem dX2_place_42 : decode cX2_place 42 = .ok (.iconst 1, 1) := by decide +kernel
theorem dX2_place_43 : decode cX2_place 43 = .ok (.goto 4, 3) := by decide +kernel
theorem dX2_place_46 : decode cX2_place 46 = .ok (.iconst 0, 1) := by decide +kernel
theorem dX2_place_47 : decode cX2_place 47 = .ok (.iadd, 1) := by decide +kernel
theorem dX2_place_48 : decode cX2_place 48 = .ok (.istore_n 2, 1) := by decide +kernel
theorem dX2_place_49 : decode cX2_place 49 = .ok (.iinc 3 1, 3) := by decide +kernel
theorem dX2_place_52 : decode cX2_place 52 = .ok (.goto (-48), 3) := by decide +kernel
theorem dX2_place_55 : decode cX2_place 55 = .ok (.iload_n 2, 1) := by decide +kernel
theorem dX2_place_56 : decode cX2_place 56 = .ok (.ireturn, 1) := by decide +kernel
set_option maxRecDepth 20000 in
theorem ggX2_fastest_X2_fifthBeats : GoodIn wsX2_fastest wsX2_fifthBeats := goodIn_r _ [10, 11, 12, 13, 9, 14, 15, 16, 17, 18, 19, 20, 21, 22, 23, 1, 24, 25, 26, 27, 28, 29, 30, 4, 31, 32, 33, 34, 35, 36, 37, 38, 39, 40, 41] (by decide +kernel) (by decide +kernel)
set_option maxRecDepth 20000 in
theorem gX2_fastest_X2_fifthBeats : GoodIn wsX2_fastest (wsV RX2 71 RX2 yX2_fifthBeats wsX2_fifthBeats) := goodIn_app (goodIn_of _ (by decide +kernel)) ggX2_fastest_X2_fifthBeats
theorem dX2_fastest_0 : decode cX2_fastest 0 = .ok (.iconst 0, 1) := by decide +kernel
theorem dX2_fastest_1 : decode cX2_fastest 1 = .ok (.istore_n 1, 1) := by decide +kernel
theorem dX2_fastest_2 : decode cX2_fastest 2 = .ok (.iconst 0, 1) := by decide +kernel
theorem dX2_fastest_3 : decode cX2_fastest 3 = .ok (.istore_n 2, 1) := by decide +kernel
theorem dX2_fastest_4 : decode cX2_fastest 4 = .ok (.iload_n 2, 1) := by decide +kernel
theorem dX2_fastest_5 : decode cX2_fastest 5 = .ok (.bipush 12, 2) := by decide +kernel
theorem dX2_fastest_7 : decode cX2_fastest 7 = .ok (.if_icmp .ge 27, 3) := by decide +kernel
theorem dX2_fastest_10 : decode cX2_fastest 10 = .ok (.iload_n 2, 1) := by decide +kernel
theorem dX2_fastest_11 : decode cX2_fastest 11 = .ok (.aload_n 0, 1) := by decide +kernel
theorem dX2_fastest_12 : decode cX2_fastest 12 = .ok (.getfield 7, 3) := by decide +kernel
theorem dX2_fastest_15 : decode cX2_fastest 15 = .ok (.if_icmp .eq 13, 3) := by decide +kernel
theorem dX2_fastest_18 : decode cX2_fastest 18 = .ok (.iload_n 1, 1) := by decide +kernel
theorem dX2_fastest_19 : decode cX2_fastest 19 = .ok (.aload_n 0, 1) := by decide +kernel
theorem dX2_fastest_20 : decode cX2_fastest 20 = .ok (.iload_n 2, 1) := by decide +kernel
theorem dX2_fastest_21 : decode cX2_fastest 21 = .ok (.invokevirtual 71, 3) := by decide +kernel
theorem dX2_fastest_24 : decode cX2_fastest 24 = .ok (.invokestatic 39, 3) := by decide +kernel
theorem dX2_fastest_27 : decode cX2_fastest 27 = .ok (.istore_n 1, 1) := by decide +kernel
theorem dX2_fastest_28 : decode cX2_fastest 28 = .ok (.iinc 2 1, 3) := by decide +kernel
theorem dX2_fastest_31 : decode cX2_fastest 31 = .ok (.goto (-27), 3) := by decide +kernel
theorem dX2_fastest_34 : decode cX2_fastest 34 = .ok (.iload_n 1, 1) := by decide +kernel
theorem dX2_fastest_35 : decode cX2_fastest 35 = .ok (.ireturn, 1) := by decide +kernel
set_option maxRecDepth 20000 in
theorem ggX2_setFifth_X2_isOne : GoodIn wsX2_setFifth wsX2_isOne := goodIn_r _ [7, 8, 9, 6, 10] (by decide +kernel) (by decide +kernel)
set_option maxRecDepth 20000 in
theorem gX2_setFifth_X2_isOne : GoodIn wsX2_setFifth (va_wsS RX2 74 yX2_isOne wsX2_isOne) := goodIn_app (goodIn_of _ (by decide +kernel)) ggX2_setFifth_X2_isOne
set_option maxRecDepth 20000 in
theorem ggX2_setFifth_X2_no : GoodIn wsX2_setFifth wsX2_no := goodIn_r _ [14, 1, 15, 16, 17, 18, 19, 20, 21] (by decide +kernel) (by decide +kernel)
set_option maxRecDepth 20000 in
theorem gX2_setFifth_X2_no : GoodIn wsX2_setFifth (wsV RX2 78 RX2 yX2_no wsX2_no) := goodIn_app (goodIn_of _ (by decide +kernel)) ggX2_setFifth_X2_no
set_option maxRecDepth 20000 in
theorem ggX2_setFifth_X2_isIn : GoodIn wsX2_setFifth wsX2_isIn := goodIn_r _ [10] (by decide +kernel) (by decide +kernel)
set_option maxRecDepth 20000 in
theorem gX2_setFifth_X2_isIn : GoodIn wsX2_setFifth (va_wsS RX2 29 yX2_isIn wsX2_isIn) := goodIn_app (goodIn_of _ (by decide +kernel)) ggX2_setFifth_X2_isIn
theorem dX2_setFifth_0 : decode cX2_setFifth 0 = .ok (.aload_n 0, 1) := by decide +kernel
theorem dX2_setFifth_1 : decode cX2_setFifth 1 = .ok (.iconst 0, 1) := by decide +kernel
theorem dX2_setFifth_2 : decode cX2_setFifth 2 = .ok (.putfield 26, 3) := by decide +kernel
theorem dX2_setFifth_5 : decode cX2_setFifth 5 = .ok (.iload_n 1, 1) := by decide +kernel
theorem dX2_setFifth_6 : decode cX2_setFifth 6 = .ok (.invokestatic 74, 3) := by decide +kernel
theorem dX2_setFifth_9 : decode cX2_setFifth 9 = .ok (.ifCond .ne 9, 3) := by decide +kernel
theorem dX2_setFifth_12 : decode cX2_setFifth 12 = .ok (.aload_n 0, 1) := by decide +kernel
theorem dX2_setFifth_13 : decode cX2_setFifth 13 = .ok (.iconst 1, 1) := by decide +kernel
theorem dX2_setFifth_14 : decode cX2_setFifth 14 = .ok (.invokevirtual 78, 3) := by decide +kernel
theorem dX2_setFifth_17 : decode cX2_setFifth 17 = .ok (.ireturn, 1) := by decide +kernel
theorem dX2_setFifth_18 : decode cX2_setFifth 18 = .ok (.iload_n 2, 1) := by decide +kernel
theorem dX2_setFifth_19 : decode cX2_setFifth 19 = .ok (.bipush (-10), 2) := by decide +kernel
theorem dX2_setFifth_21 : decode cX2_setFifth 21 = .ok (.bipush 20, 2) := by decide +kernel
theorem dX2_setFifth_23 : decode cX2_setFifth 23 = .ok (.invokestatic 29, 3) := by decide +kernel
theorem dX2_setFifth_26 : decode cX2_setFifth 26 = .ok (.ifCond .ne 9, 3) := by decide +kernel
theorem dX2_setFifth_29 : decode cX2_setFifth 29 = .ok (.aload_n 0, 1) := by decide +kernel
theorem dX2_setFifth_30 : decode cX2_setFifth 30 = .ok (.iconst 2, 1) := by decide +kernel
theorem dX2_setFifth_31 : decode cX2_setFifth 31 = .ok (.invokevirtual 78, 3) := by decide +kernel
theorem dX2_setFifth_34 : decode cX2_setFifth 34 = .ok (.ireturn, 1) := by decide +kernel
theorem dX2_setFifth_35 : decode cX2_setFifth 35 = .ok (.iload_n 1, 1) := by decide +kernel
theorem dX2_setFifth_36 : decode cX2_setFifth 36 = .ok (.aload_n 0, 1) := by decide +kernel
theorem dX2_setFifth_37 : decode cX2_setFifth 37 = .ok (.getfield 7, 3) := by decide +kernel
theorem dX2_setFifth_40 : decode cX2_setFifth 40 = .ok (.if_icmp .ne 9, 3) := by decide +kernel
theorem dX2_setFifth_43 : decode cX2_setFifth 43 = .ok (.aload_n 0, 1) := by decide +kernel
theorem dX2_setFifth_44 : decode cX2_setFifth 44 = .ok (.iconst 3, 1) := by decide +kernel
theorem dX2_setFifth_45 : decode cX2_setFifth 45 = .ok (.invokevirtual 78, 3) := by decide +kernel
theorem dX2_setFifth_48 : decode cX2_setFifth 48 = .ok (.ireturn, 1) := by decide +kernel
theorem dX2_setFifth_49 : decode cX2_setFifth 49 = .ok (.aload_n 0, 1) := by decide +kernel
theorem dX2_setFifth_50 : decode cX2_setFifth 50 = .ok (.getfield 13, 3) := by decide +kernel
theorem dX2_setFifth_53 : decode cX2_setFifth 53 = .ok (.iload_n 1, 1) := by decide +kernel
theorem dX2_setFifth_54 : decode cX2_setFifth 54 = .ok (.iaload, 1) := by decide +kernel
theorem dX2_setFifth_55 : decode cX2_setFifth 55 = .ok (.istore_n 3, 1) := by decide +kernel
theorem dX2_setFifth_56 : decode cX2_setFifth 56 = .ok (.aload_n 0, 1) := by decide +kernel
theorem dX2_setFifth_57 : decode cX2_setFifth 57 = .ok (.getfield 13, 3) := by decide +kernel
theorem dX2_setFifth_60 : decode cX2_setFifth 60 = .ok (.iload_n 1, 1) := by decide +kernel
theorem dX2_setFifth_61 : decode cX2_setFifth 61 = .ok (.iload_n 2, 1) := by decide +kernel
theorem dX2_setFifth_62 : decode cX2_setFifth 62 = .ok (.iastore, 1) := by decide +kernel
theorem dX2_setFifth_63 : decode cX2_setFifth 63 = .ok (.iload_n 3, 1) := by decide +kernel
theorem dX2_setFifth_64 : decode cX2_setFifth 64 = .ok (.ireturn, 1) := by decide +kernel
set_option maxRecDepth 20000 in
theorem ggX2_shiftTo_X2_planOf : GoodIn wsX2_shiftTo wsX2_planOf := goodIn_r _ [7, 2, 1, 8, 9, 10, 11, 12, 13, 14] (by decide +kernel) (by decide +kernel)
set_option maxRecDepth 20000 in
theorem gX2_shiftTo_X2_planOf : GoodIn wsX2_shiftTo (wsV RX2 46 RX2 yX2_planOf wsX2_planOf) := goodIn_app (goodIn_of _ (by decide +kernel)) ggX2_shiftTo_X2_planOf
theorem dX2_shiftTo_0 : decode cX2_shiftTo 0 = .ok (.aload_n 0, 1) := by decide +kernel
theorem dX2_shiftTo_1 : decode cX2_shiftTo 1 = .ok (.getfield 13, 3) := by decide +kernel
theorem dX2_shiftTo_4 : decode cX2_shiftTo 4 = .ok (.aload_n 0, 1) := by decide +kernel
theorem dX2_shiftTo_5 : decode cX2_shiftTo 5 = .ok (.getfield 7, 3) := by decide +kernel
theorem dX2_shiftTo_8 : decode cX2_shiftTo 8 = .ok (.aload_n 0, 1) := by decide +kernel
theorem dX2_shiftTo_9 : decode cX2_shiftTo 9 = .ok (.iload_n 1, 1) := by decide +kernel
theorem dX2_shiftTo_10 : decode cX2_shiftTo 10 = .ok (.invokevirtual 46, 3) := by decide +kernel
theorem dX2_shiftTo_13 : decode cX2_shiftTo 13 = .ok (.iastore, 1) := by decide +kernel
theorem dX2_shiftTo_14 : decode cX2_shiftTo 14 = .ok (.aload_n 0, 1) := by decide +kernel
theorem dX2_shiftTo_15 : decode cX2_shiftTo 15 = .ok (.iload_n 1, 1) := by decide +kernel
theorem dX2_shiftTo_16 : decode cX2_shiftTo 16 = .ok (.putfield 7, 3) := by decide +kernel
theorem dX2_shiftTo_19 : decode cX2_shiftTo 19 = .ok (.return_, 1) := by decide +kernel
set_option maxRecDepth 20000 in
theorem ggX2_shift_X2_isOne : GoodIn wsX2_shift wsX2_isOne := goodIn_r _ [6, 7, 8, 5, 9] (by decide +kernel) (by decide +kernel)
set_option maxRecDepth 20000 in
theorem gX2_shift_X2_isOne : GoodIn wsX2_shift (va_wsS RX2 74 yX2_isOne wsX2_isOne) := goodIn_app (goodIn_of _ (by decide +kernel)) ggX2_shift_X2_isOne
set_option maxRecDepth 20000 in
theorem ggX2_shift_X2_no : GoodIn wsX2_shift wsX2_no := goodIn_r _ [13, 1, 23, 24, 25, 26, 27, 28, 29] (by decide +kernel) (by decide +kernel)
set_option maxRecDepth 20000 in
theorem gX2_shift_X2_no : GoodIn wsX2_shift (wsV RX2 78 RX2 yX2_no wsX2_no) := goodIn_app (goodIn_of _ (by decide +kernel)) ggX2_shift_X2_no
set_option maxRecDepth 20000 in
theorem ggX2_shift_X2_shiftTo : GoodIn wsX2_shift wsX2_shiftTo := goodIn_r _ [17, 18, 2, 19, 20, 21, 5, 22, 23, 24, 25, 26, 27, 28, 29] (by decide +kernel) (by decide +kernel)
set_option maxRecDepth 20000 in
theorem gX2_shift_X2_shiftTo : GoodIn wsX2_shift (wsV RX2 81 RX2 yX2_shiftTo wsX2_shiftTo) := goodIn_app (goodIn_of _ (by decide +kernel)) ggX2_shift_X2_shiftTo
theorem dX2_shift_0 : decode cX2_shift 0 = .ok (.aload_n 0, 1) := by decide +kernel
theorem dX2_shift_1 : decode cX2_shift 1 = .ok (.iconst 0, 1) := by decide +kernel
theorem dX2_shift_2 : decode cX2_shift 2 = .ok (.putfield 26, 3) := by decide +kernel
theorem dX2_shift_5 : decode cX2_shift 5 = .ok (.iload_n 1, 1) := by decide +kernel
theorem dX2_shift_6 : decode cX2_shift 6 = .ok (.invokestatic 74, 3) := by decide +kernel
theorem dX2_shift_9 : decode cX2_shift 9 = .ok (.ifCond .ne 9, 3) := by decide +kernel
theorem dX2_shift_12 : decode cX2_shift 12 = .ok (.aload_n 0, 1) := by decide +kernel
theorem dX2_shift_13 : decode cX2_shift 13 = .ok (.iconst 1, 1) := by decide +kernel
theorem dX2_shift_14 : decode cX2_shift 14 = .ok (.invokevirtual 78, 3) := by decide +kernel
theorem dX2_shift_17 : decode cX2_shift 17 = .ok (.ireturn, 1) := by decide +kernel
theorem dX2_shift_18 : decode cX2_shift 18 = .ok (.aload_n 0, 1) := by decide +kernel
theorem dX2_shift_19 : decode cX2_shift 19 = .ok (.getfield 7, 3) := by decide +kernel
theorem dX2_shift_22 : decode cX2_shift 22 = .ok (.istore_n 2, 1) := by decide +kernel
theorem dX2_shift_23 : decode cX2_shift 23 = .ok (.aload_n 0, 1) := by decide +kernel
theorem dX2_shift_24 : decode cX2_shift 24 = .ok (.iload_n 1, 1) := by decide +kernel
theorem dX2_shift_25 : decode cX2_shift 25 = .ok (.invokevirtual 81, 3) := by decide +kernel
theorem dX2_shift_28 : decode cX2_shift 28 = .ok (.iload_n 2, 1) := by decide +kernel
theorem dX2_shift_29 : decode cX2_shift 29 = .ok (.ireturn, 1) := by decide +kernel
set_option maxRecDepth 20000 in
theorem ggX2_spread_X2_isIn : GoodIn wsX2_spread wsX2_isIn := goodIn_r _ [7] (by decide +kernel) (by decide +kernel)
set_option maxRecDepth 20000 in
theorem gX2_spread_X2_isIn : GoodIn wsX2_spread (va_wsS RX2 29 yX2_isIn wsX2_isIn) := goodIn_app (goodIn_of _ (by decide +kernel)) ggX2_spread_X2_isIn
set_option maxRecDepth 20000 in
theorem ggX2_spread_X2_no : GoodIn wsX2_spread wsX2_no := goodIn_r _ [11, 1, 16, 17, 18, 19, 20, 21, 22] (by decide +kernel) (by decide +kernel)
set_option maxRecDepth 20000 in
theorem gX2_spread_X2_no : GoodIn wsX2_spread (wsV RX2 78 RX2 yX2_no wsX2_no) := goodIn_app (goodIn_of _ (by decide +kernel)) ggX2_spread_X2_no
set_option maxRecDepth 20000 in
theorem ggX2_spread_X2_planOf : GoodIn wsX2_spread wsX2_planOf := goodIn_r _ [15, 2, 3, 16, 17, 18, 19, 20, 21, 22] (by decide +kernel) (by decide +kernel)
set_option maxRecDepth 20000 in
theorem gX2_spread_X2_planOf : GoodIn wsX2_spread (wsV RX2 46 RX2 yX2_planOf wsX2_planOf) := goodIn_app (goodIn_of _ (by decide +kernel)) ggX2_spread_X2_planOf
theorem dX2_spread_0 : decode cX2_spread 0 = .ok (.aload_n 0, 1) := by decide +kernel
theorem dX2_spread_1 : decode cX2_spread 1 = .ok (.iconst 0, 1) := by decide +kernel
theorem dX2_spread_2 : decode cX2_spread 2 = .ok (.putfield 26, 3) := by decide +kernel
theorem dX2_spread_5 : decode cX2_spread 5 = .ok (.iload_n 1, 1) := by decide +kernel
theorem dX2_spread_6 : decode cX2_spread 6 = .ok (.iconst 2, 1) := by decide +kernel
theorem dX2_spread_7 : decode cX2_spread 7 = .ok (.bipush 11, 2) := by decide +kernel
theorem dX2_spread_9 : decode cX2_spread 9 = .ok (.invokestatic 29, 3) := by decide +kernel
theorem dX2_spread_12 : decode cX2_spread 12 = .ok (.ifCond .ne 9, 3) := by decide +kernel
theorem dX2_spread_15 : decode cX2_spread 15 = .ok (.aload_n 0, 1) := by decide +kernel
theorem dX2_spread_16 : decode cX2_spread 16 = .ok (.iconst 1, 1) := by decide +kernel
theorem dX2_spread_17 : decode cX2_spread 17 = .ok (.invokevirtual 78, 3) := by decide +kernel
theorem dX2_spread_20 : decode cX2_spread 20 = .ok (.ireturn, 1) := by decide +kernel
theorem dX2_spread_21 : decode cX2_spread 21 = .ok (.aload_n 0, 1) := by decide +kernel
theorem dX2_spread_22 : decode cX2_spread 22 = .ok (.aload_n 0, 1) := by decide +kernel
theorem dX2_spread_23 : decode cX2_spread 23 = .ok (.getfield 7, 3) := by decide +kernel
theorem dX2_spread_26 : decode cX2_spread 26 = .ok (.invokevirtual 46, 3) := by decide +kernel
theorem dX2_spread_29 : decode cX2_spread 29 = .ok (.istore_n 2, 1) := by decide +kernel
theorem dX2_spread_30 : decode cX2_spread 30 = .ok (.iconst 0, 1) := by decide +kernel
theorem dX2_spread_31 : decode cX2_spread 31 = .ok (.istore_n 3, 1) := by decide +kernel
theorem dX2_spread_32 : decode cX2_spread 32 = .ok (.iload_n 3, 1) := by decide +kernel
theorem dX2_spread_33 : decode cX2_spread 33 = .ok (.bipush 11, 2) := by decide +kernel
theorem dX2_spread_35 : decode cX2_spread 35 = .ok (.if_icmp .ge 52, 3) := by decide +kernel
theorem dX2_spread_38 : decode cX2_spread 38 = .ok (.aload_n 0, 1) := by decide +kernel
theorem dX2_spread_39 : decode cX2_spread 39 = .ok (.getfield 13, 3) := by decide +kernel
theorem dX2_spread_42 : decode cX2_spread 42 = .ok (.aload_n 0, 1) := by decide +kernel
theorem dX2_spread_43 : decode cX2_spread 43 = .ok (.getfield 7, 3) := by decide +kernel
theorem dX2_spread_46 : decode cX2_spread 46 = .ok (.iconst 1, 1) := by decide +kernel
theorem dX2_spread_47 : decode cX2_spread 47 = .ok (.iadd, 1) := by decide +kernel
theorem dX2_spread_48 : decode cX2_spread 48 = .ok (.iload_n 3, 1) := by decide +kernel
theorem dX2_spread_49 : decode cX2_spread 49 = .ok (.iadd, 1) := by decide +kernel
theorem dX2_spread_50 : decode cX2_spread 50 = .ok (.bipush 12, 2) := by decide +kernel
theorem dX2_spread_52 : decode cX2_spread 52 = .ok (.irem, 1) := by decide +kernel
theorem dX2_spread_53 : decode cX2_spread 53 = .ok (.iload_n 3, 1) := by decide +kernel
theorem dX2_spread_54 : decode cX2_spread 54 = .ok (.iload_n 1, 1) := by decide +kernel
theorem dX2_spread_55 : decode cX2_spread 55 = .ok (.if_icmp .lt 7, 3) := by decide +kernel
theorem dX2_spread_58 : decode cX2_spread 58 = .ok (.iconst 0, 1) := by decide +kernel
theorem dX2_spread_59 : decode cX2_spread 59 = .ok (.goto 21, 3) := by decide +kernel
theorem dX2_spread_62 : decode cX2_spread 62 = .ok (.bipush 24, 2) := by decide +kernel
theorem dX2_spread_64 : decode cX2_spread 64 = .ok (.iload_n 1, 1) := by decide +kernel
theorem dX2_spread_65 : decode cX2_spread 65 = .ok (.idiv, 1) := by decide +kernel
theorem dX2_spread_66 : decode cX2_spread 66 = .ok (.iload_n 3, 1) := by decide +kernel
theorem dX2_spread_67 : decode cX2_spread 67 = .ok (.bipush 24, 2) := by decide +kernel
theorem dX2_spread_69 : decode cX2_spread 69 = .ok (.iload_n 1, 1) := by decide +kernel
theorem dX2_spread_70 : decode cX2_spread 70 = .ok (.irem, 1) := by decide +kernel
theorem dX2_spread_71 : decode cX2_spread 71 = .ok (.if_icmp .ge 7, 3) := by decide +kernel
theorem dX2_spread_74 : decode cX2_spread 74 = .ok (.iconst 1, 1) := by decide +kernel
theorem dX2_spread_75 : decode cX2_spread 75 = .ok (.goto 4, 3) := by decide +kernel
theorem dX2_spread_78 : decode cX2_spread 78 = .ok (.iconst 0, 1) := by decide +kernel
theorem dX2_spread_79 : decode cX2_spread 79 = .ok (.iadd, 1) := by decide +kernel
theorem dX2_spread_80 : decode cX2_spread 80 = .ok (.iastore, 1) := by decide +kernel
theorem dX2_spread_81 : decode cX2_spread 81 = .ok (.iinc 3 1, 3) := by decide +kernel
theorem dX2_spread_84 : decode cX2_spread 84 = .ok (.goto (-52), 3) := by decide +kernel
theorem dX2_spread_87 : decode cX2_spread 87 = .ok (.iload_n 2, 1) := by decide +kernel
theorem dX2_spread_88 : decode cX2_spread 88 = .ok (.ireturn, 1) := by decide +kernel
set_option maxRecDepth 20000 in
theorem ggX2_setOften_X2_isOne : GoodIn wsX2_setOften wsX2_isOne := goodIn_r _ [6, 7, 8, 5, 9] (by decide +kernel) (by decide +kernel)
set_option maxRecDepth 20000 in
theorem gX2_setOften_X2_isOne : GoodIn wsX2_setOften (va_wsS RX2 74 yX2_isOne wsX2_isOne) := goodIn_app (goodIn_of _ (by decide +kernel)) ggX2_setOften_X2_isOne
set_option maxRecDepth 20000 in
theorem ggX2_setOften_X2_no : GoodIn wsX2_setOften wsX2_no := goodIn_r _ [13, 1, 14, 15, 16, 17, 18, 19, 20] (by decide +kernel) (by decide +kernel)
set_option maxRecDepth 20000 in
theorem gX2_setOften_X2_no : GoodIn wsX2_setOften (wsV RX2 78 RX2 yX2_no wsX2_no) := goodIn_app (goodIn_of _ (by decide +kernel)) ggX2_setOften_X2_no
set_option maxRecDepth 20000 in
theorem ggX2_setOften_X2_isIn : GoodIn wsX2_setOften wsX2_isIn := goodIn_r _ [9] (by decide +kernel) (by decide +kernel)
set_option maxRecDepth 20000 in
theorem gX2_setOften_X2_isIn : GoodIn wsX2_setOften (va_wsS RX2 29 yX2_isIn wsX2_isIn) := goodIn_app (goodIn_of _ (by decide +kernel)) ggX2_setOften_X2_isIn
theorem dX2_setOften_0 : decode cX2_setOften 0 = .ok (.aload_n 0, 1) := by decide +kernel
theorem dX2_setOften_1 : decode cX2_setOften 1 = .ok (.iconst 0, 1) := by decide +kernel
theorem dX2_setOften_2 : decode cX2_setOften 2 = .ok (.putfield 26, 3) := by decide +kernel
theorem dX2_setOften_5 : decode cX2_setOften 5 = .ok (.iload_n 1, 1) := by decide +kernel
theorem dX2_setOften_6 : decode cX2_setOften 6 = .ok (.invokestatic 74, 3) := by decide +kernel
theorem dX2_setOften_9 : decode cX2_setOften 9 = .ok (.ifCond .ne 9, 3) := by decide +kernel
theorem dX2_setOften_12 : decode cX2_setOften 12 = .ok (.aload_n 0, 1) := by decide +kernel
theorem dX2_setOften_13 : decode cX2_setOften 13 = .ok (.iconst 1, 1) := by decide +kernel
theorem dX2_setOften_14 : decode cX2_setOften 14 = .ok (.invokevirtual 78, 3) := by decide +kernel
theorem dX2_setOften_17 : decode cX2_setOften 17 = .ok (.ireturn, 1) := by decide +kernel
theorem dX2_setOften_18 : decode cX2_setOften 18 = .ok (.iload_n 2, 1) := by decide +kernel
theorem dX2_setOften_19 : decode cX2_setOften 19 = .ok (.iconst 0, 1) := by decide +kernel
theorem dX2_setOften_20 : decode cX2_setOften 20 = .ok (.bipush 9, 2) := by decide +kernel
theorem dX2_setOften_22 : decode cX2_setOften 22 = .ok (.invokestatic 29, 3) := by decide +kernel
theorem dX2_setOften_25 : decode cX2_setOften 25 = .ok (.ifCond .ne 9, 3) := by decide +kernel
theorem dX2_setOften_28 : decode cX2_setOften 28 = .ok (.aload_n 0, 1) := by decide +kernel
theorem dX2_setOften_29 : decode cX2_setOften 29 = .ok (.iconst 2, 1) := by decide +kernel
theorem dX2_setOften_30 : decode cX2_setOften 30 = .ok (.invokevirtual 78, 3) := by decide +kernel
theorem dX2_setOften_33 : decode cX2_setOften 33 = .ok (.ireturn, 1) := by decide +kernel
theorem dX2_setOften_34 : decode cX2_setOften 34 = .ok (.aload_n 0, 1) := by decide +kernel
theorem dX2_setOften_35 : decode cX2_setOften 35 = .ok (.getfield 20, 3) := by decide +kernel
theorem dX2_setOften_38 : decode cX2_setOften 38 = .ok (.iload_n 1, 1) := by decide +kernel
theorem dX2_setOften_39 : decode cX2_setOften 39 = .ok (.iaload, 1) := by decide +kernel
theorem dX2_setOften_40 : decode cX2_setOften 40 = .ok (.istore_n 3, 1) := by decide +kernel
theorem dX2_setOften_41 : decode cX2_setOften 41 = .ok (.aload_n 0, 1) := by decide +kernel
theorem dX2_setOften_42 : decode cX2_setOften 42 = .ok (.getfield 20, 3) := by decide +kernel
theorem dX2_setOften_45 : decode cX2_setOften 45 = .ok (.iload_n 1, 1) := by decide +kernel
theorem dX2_setOften_46 : decode cX2_setOften 46 = .ok (.iload_n 2, 1) := by decide +kernel
theorem dX2_setOften_47 : decode cX2_setOften 47 = .ok (.iastore, 1) := by decide +kernel
theorem dX2_setOften_48 : decode cX2_setOften 48 = .ok (.iload_n 3, 1) := by decide +kernel
theorem dX2_setOften_49 : decode cX2_setOften 49 = .ok (.ireturn, 1) := by decide +kernel
set_option maxRecDepth 20000 in
theorem ggX2_setDrift_X2_isOne : GoodIn wsX2_setDrift wsX2_isOne := goodIn_r _ [6, 7, 8, 5, 9] (by decide +kernel) (by decide +kernel)
set_option maxRecDepth 20000 in
theorem gX2_setDrift_X2_isOne : GoodIn wsX2_setDrift (va_wsS RX2 74 yX2_isOne wsX2_isOne) := goodIn_app (goodIn_of _ (by decide +kernel)) ggX2_setDrift_X2_isOne
set_option maxRecDepth 20000 in
theorem ggX2_setDrift_X2_no : GoodIn wsX2_setDrift wsX2_no := goodIn_r _ [13, 1, 14, 15, 16, 17, 18, 19, 20] (by decide +kernel) (by decide +kernel)
set_option maxRecDepth 20000 in
theorem gX2_setDrift_X2_no : GoodIn wsX2_setDrift (wsV RX2 78 RX2 yX2_no wsX2_no) := goodIn_app (goodIn_of _ (by decide +kernel)) ggX2_setDrift_X2_no
set_option maxRecDepth 20000 in
theorem ggX2_setDrift_X2_isIn : GoodIn wsX2_setDrift wsX2_isIn := goodIn_r _ [9] (by decide +kernel) (by decide +kernel)
set_option maxRecDepth 20000 in
theorem gX2_setDrift_X2_isIn : GoodIn wsX2_setDrift (va_wsS RX2 29 yX2_isIn wsX2_isIn) := goodIn_app (goodIn_of _ (by decide +kernel)) ggX2_setDrift_X2_isIn
theorem dX2_setDrift_0 : decode cX2_setDrift 0 = .ok (.aload_n 0, 1) := by decide +kernel
theorem dX2_setDrift_1 : decode cX2_setDrift 1 = .ok (.iconst 0, 1) := by decide +kernel
theorem dX2_setDrift_2 : decode cX2_setDrift 2 = .ok (.putfield 26, 3) := by decide +kernel
theorem dX2_setDrift_5 : decode cX2_setDrift 5 = .ok (.iload_n 1, 1) := by decide +kernel
theorem dX2_setDrift_6 : decode cX2_setDrift 6 = .ok (.invokestatic 74, 3) := by decide +kernel
theorem dX2_setDrift_9 : decode cX2_setDrift 9 = .ok (.ifCond .ne 9, 3) := by decide +kernel
theorem dX2_setDrift_12 : decode cX2_setDrift 12 = .ok (.aload_n 0, 1) := by decide +kernel
theorem dX2_setDrift_13 : decode cX2_setDrift 13 = .ok (.iconst 1, 1) := by decide +kernel
theorem dX2_setDrift_14 : decode cX2_setDrift 14 = .ok (.invokevirtual 78, 3) := by decide +kernel
theorem dX2_setDrift_17 : decode cX2_setDrift 17 = .ok (.ireturn, 1) := by decide +kernel
theorem dX2_setDrift_18 : decode cX2_setDrift 18 = .ok (.iload_n 2, 1) := by decide +kernel
theorem dX2_setDrift_19 : decode cX2_setDrift 19 = .ok (.bipush (-3), 2) := by decide +kernel
theorem dX2_setDrift_21 : decode cX2_setDrift 21 = .ok (.iconst 3, 1) := by decide +kernel
theorem dX2_setDrift_22 : decode cX2_setDrift 22 = .ok (.invokestatic 29, 3) := by decide +kernel
theorem dX2_setDrift_25 : decode cX2_setDrift 25 = .ok (.ifCond .ne 9, 3) := by decide +kernel
theorem dX2_setDrift_28 : decode cX2_setDrift 28 = .ok (.aload_n 0, 1) := by decide +kernel
theorem dX2_setDrift_29 : decode cX2_setDrift 29 = .ok (.iconst 2, 1) := by decide +kernel
theorem dX2_setDrift_30 : decode cX2_setDrift 30 = .ok (.invokevirtual 78, 3) := by decide +kernel
theorem dX2_setDrift_33 : decode cX2_setDrift 33 = .ok (.ireturn, 1) := by decide +kernel
theorem dX2_setDrift_34 : decode cX2_setDrift 34 = .ok (.aload_n 0, 1) := by decide +kernel
theorem dX2_setDrift_35 : decode cX2_setDrift 35 = .ok (.getfield 17, 3) := by decide +kernel
theorem dX2_setDrift_38 : decode cX2_setDrift 38 = .ok (.iload_n 1, 1) := by decide +kernel
theorem dX2_setDrift_39 : decode cX2_setDrift 39 = .ok (.iaload, 1) := by decide +kernel
theorem dX2_setDrift_40 : decode cX2_setDrift 40 = .ok (.istore_n 3, 1) := by decide +kernel
theorem dX2_setDrift_41 : decode cX2_setDrift 41 = .ok (.aload_n 0, 1) := by decide +kernel
theorem dX2_setDrift_42 : decode cX2_setDrift 42 = .ok (.getfield 17, 3) := by decide +kernel
theorem dX2_setDrift_45 : decode cX2_setDrift 45 = .ok (.iload_n 1, 1) := by decide +kernel
theorem dX2_setDrift_46 : decode cX2_setDrift 46 = .ok (.iload_n 2, 1) := by decide +kernel
theorem dX2_setDrift_47 : decode cX2_setDrift 47 = .ok (.iastore, 1) := by decide +kernel
theorem dX2_setDrift_48 : decode cX2_setDrift 48 = .ok (.iload_n 3, 1) := by decide +kernel
theorem dX2_setDrift_49 : decode cX2_setDrift 49 = .ok (.ireturn, 1) := by decide +kernel
theorem dX2_ahead_0 : decode cX2_ahead 0 = .ok (.iload_n 0, 1) := by decide +kernel
theorem dX2_ahead_1 : decode cX2_ahead 1 = .ok (.bipush 12, 2) := by decide +kernel
theorem dX2_ahead_3 : decode cX2_ahead 3 = .ok (.iadd, 1) := by decide +kernel
theorem dX2_ahead_4 : decode cX2_ahead 4 = .ok (.iconst 1, 1) := by decide +kernel
theorem dX2_ahead_5 : decode cX2_ahead 5 = .ok (.isub, 1) := by decide +kernel
theorem dX2_ahead_6 : decode cX2_ahead 6 = .ok (.bipush 12, 2) := by decide +kernel
theorem dX2_ahead_8 : decode cX2_ahead 8 = .ok (.irem, 1) := by decide +kernel
theorem dX2_ahead_9 : decode cX2_ahead 9 = .ok (.ireturn, 1) := by decide +kernel
set_option maxRecDepth 20000 in
theorem ggX2_canTune_X2_ahead : GoodIn wsX2_canTune wsX2_ahead := goodIn_r _ [5] (by decide +kernel) (by decide +kernel)
set_option maxRecDepth 20000 in
theorem gX2_canTune_X2_ahead : GoodIn wsX2_canTune (va_wsS RX2 85 yX2_ahead wsX2_ahead) := goodIn_app (goodIn_of _ (by decide +kernel)) ggX2_canTune_X2_ahead
theorem dX2_canTune_0 : decode cX2_canTune 0 = .ok (.iload_n 1, 1) := by decide +kernel
theorem dX2_canTune_1 : decode cX2_canTune 1 = .ok (.invokestatic 85, 3) := by decide +kernel
theorem dX2_canTune_4 : decode cX2_canTune 4 = .ok (.aload_n 0, 1) := by decide +kernel
theorem dX2_canTune_5 : decode cX2_canTune 5 = .ok (.getfield 7, 3) := by decide +kernel
theorem dX2_canTune_8 : decode cX2_canTune 8 = .ok (.if_icmp .eq 7, 3) := by decide +kernel
theorem dX2_canTune_11 : decode cX2_canTune 11 = .ok (.iconst 1, 1) := by decide +kernel
theorem dX2_canTune_12 : decode cX2_canTune 12 = .ok (.goto 4, 3) := by decide +kernel
theorem dX2_canTune_15 : decode cX2_canTune 15 = .ok (.iconst 0, 1) := by decide +kernel
theorem dX2_canTune_16 : decode cX2_canTune 16 = .ok (.ireturn, 1) := by decide +kernel
set_option maxRecDepth 20000 in
theorem ggX2_tuned_X2_ahead : GoodIn wsX2_tuned wsX2_ahead := goodIn_r _ [5] (by decide +kernel) (by decide +kernel)
set_option maxRecDepth 20000 in
theorem gX2_tuned_X2_ahead : GoodIn wsX2_tuned (va_wsS RX2 85 yX2_ahead wsX2_ahead) := goodIn_app (goodIn_of _ (by decide +kernel)) ggX2_tuned_X2_ahead
theorem dX2_tuned_0 : decode cX2_tuned 0 = .ok (.aload_n 0, 1) := by decide +kernel
theorem dX2_tuned_1 : decode cX2_tuned 1 = .ok (.getfield 23, 3) := by decide +kernel
theorem dX2_tuned_4 : decode cX2_tuned 4 = .ok (.iload_n 1, 1) := by decide +kernel
theorem dX2_tuned_5 : decode cX2_tuned 5 = .ok (.iaload, 1) := by decide +kernel
theorem dX2_tuned_6 : decode cX2_tuned 6 = .ok (.istore_n 2, 1) := by decide +kernel
theorem dX2_tuned_7 : decode cX2_tuned 7 = .ok (.aload_n 0, 1) := by decide +kernel
theorem dX2_tuned_8 : decode cX2_tuned 8 = .ok (.getfield 23, 3) := by decide +kernel
theorem dX2_tuned_11 : decode cX2_tuned 11 = .ok (.iload_n 1, 1) := by decide +kernel
theorem dX2_tuned_12 : decode cX2_tuned 12 = .ok (.aload_n 0, 1) := by decide +kernel
theorem dX2_tuned_13 : decode cX2_tuned 13 = .ok (.getfield 23, 3) := by decide +kernel
theorem dX2_tuned_16 : decode cX2_tuned 16 = .ok (.iload_n 1, 1) := by decide +kernel
theorem dX2_tuned_17 : decode cX2_tuned 17 = .ok (.invokestatic 85, 3) := by decide +kernel
theorem dX2_tuned_20 : decode cX2_tuned 20 = .ok (.iaload, 1) := by decide +kernel
theorem dX2_tuned_21 : decode cX2_tuned 21 = .ok (.iastore, 1) := by decide +kernel
theorem dX2_tuned_22 : decode cX2_tuned 22 = .ok (.aload_n 0, 1) := by decide +kernel
theorem dX2_tuned_23 : decode cX2_tuned 23 = .ok (.getfield 23, 3) := by decide +kernel
theorem dX2_tuned_26 : decode cX2_tuned 26 = .ok (.iload_n 1, 1) := by decide +kernel
theorem dX2_tuned_27 : decode cX2_tuned 27 = .ok (.iaload, 1) := by decide +kernel
theorem dX2_tuned_28 : decode cX2_tuned 28 = .ok (.iload_n 2, 1) := by decide +kernel
theorem dX2_tuned_29 : decode cX2_tuned 29 = .ok (.isub, 1) := by decide +kernel
theorem dX2_tuned_30 : decode cX2_tuned 30 = .ok (.ireturn, 1) := by decide +kernel
set_option maxRecDepth 20000 in
theorem ggX2_tune_X2_isOne : GoodIn wsX2_tune wsX2_isOne := goodIn_r _ [5, 6, 7, 4, 8] (by decide +kernel) (by decide +kernel)
set_option maxRecDepth 20000 in
theorem gX2_tune_X2_isOne : GoodIn wsX2_tune (va_wsS RX2 74 yX2_isOne wsX2_isOne) := goodIn_app (goodIn_of _ (by decide +kernel)) ggX2_tune_X2_isOne
set_option maxRecDepth 20000 in
theorem ggX2_tune_X2_no : GoodIn wsX2_tune wsX2_no := goodIn_r _ [12, 1, 26, 27, 28, 29, 30, 31, 32] (by decide +kernel) (by decide +kernel)
set_option maxRecDepth 20000 in
theorem gX2_tune_X2_no : GoodIn wsX2_tune (wsV RX2 78 RX2 yX2_no wsX2_no) := goodIn_app (goodIn_of _ (by decide +kernel)) ggX2_tune_X2_no
set_option maxRecDepth 20000 in
theorem ggX2_tune_X2_canTune : GoodIn wsX2_tune wsX2_canTune := goodIn_r _ [16, 17, 18, 19, 4, 20, 26, 27, 28, 29, 30, 31, 32] (by decide +kernel) (by decide +kernel)
set_option maxRecDepth 20000 in
theorem gX2_tune_X2_canTune : GoodIn wsX2_tune (wsV RX2 88 RX2 yX2_canTune wsX2_canTune) := goodIn_app (goodIn_of _ (by decide +kernel)) ggX2_tune_X2_canTune
set_option maxRecDepth 20000 in
theorem ggX2_tune_X2_tuned : GoodIn wsX2_tune wsX2_tuned := goodIn_r _ [24, 25, 18, 19, 4, 20, 26, 27, 28, 29, 30, 31, 32] (by decide +kernel) (by decide +kernel)
set_option maxRecDepth 20000 in
theorem gX2_tune_X2_tuned : GoodIn wsX2_tune (wsV RX2 91 RX2 yX2_tuned wsX2_tuned) := goodIn_app (goodIn_of _ (by decide +kernel)) ggX2_tune_X2_tuned
theorem dX2_tune_0 : decode cX2_tune 0 = .ok (.aload_n 0, 1) := by decide +kernel
theorem dX2_tune_1 : decode cX2_tune 1 = .ok (.iconst 0, 1) := by decide +kernel
theorem dX2_tune_2 : decode cX2_tune 2 = .ok (.putfield 26, 3) := by decide +kernel
theorem dX2_tune_5 : decode cX2_tune 5 = .ok (.iload_n 1, 1) := by decide +kernel
theorem dX2_tune_6 : decode cX2_tune 6 = .ok (.invokestatic 74, 3) := by decide +kernel
theorem dX2_tune_9 : decode cX2_tune 9 = .ok (.ifCond .ne 9, 3) := by decide +kernel
theorem dX2_tune_12 : decode cX2_tune 12 = .ok (.aload_n 0, 1) := by decide +kernel
theorem dX2_tune_13 : decode cX2_tune 13 = .ok (.iconst 1, 1) := by decide +kernel
theorem dX2_tune_14 : decode cX2_tune 14 = .ok (.invokevirtual 78, 3) := by decide +kernel
theorem dX2_tune_17 : decode cX2_tune 17 = .ok (.ireturn, 1) := by decide +kernel
theorem dX2_tune_18 : decode cX2_tune 18 = .ok (.aload_n 0, 1) := by decide +kernel
theorem dX2_tune_19 : decode cX2_tune 19 = .ok (.iload_n 1, 1) := by decide +kernel
theorem dX2_tune_20 : decode cX2_tune 20 = .ok (.invokevirtual 88, 3) := by decide +kernel
theorem dX2_tune_23 : decode cX2_tune 23 = .ok (.ifCond .eq 11, 3) := by decide +kernel
theorem dX2_tune_26 : decode cX2_tune 26 = .ok (.aload_n 0, 1) := by decide +kernel
theorem dX2_tune_27 : decode cX2_tune 27 = .ok (.iload_n 1, 1) := by decide +kernel
theorem dX2_tune_28 : decode cX2_tune 28 = .ok (.invokevirtual 91, 3) := by decide +kernel
theorem dX2_tune_31 : decode cX2_tune 31 = .ok (.goto 8, 3) := by decide +kernel
theorem dX2_tune_34 : decode cX2_tune 34 = .ok (.aload_n 0, 1) := by decide +kernel
theorem dX2_tune_35 : decode cX2_tune 35 = .ok (.iconst 2, 1) := by decide +kernel
theorem dX2_tune_36 : decode cX2_tune 36 = .ok (.invokevirtual 78, 3) := by decide +kernel
theorem dX2_tune_39 : decode cX2_tune 39 = .ok (.ireturn, 1) := by decide +kernel
set_option maxRecDepth 20000 in
theorem ggX2_tuneAll_X2_tuned : GoodIn wsX2_tuneAll wsX2_tuned := goodIn_r _ [7, 8, 9, 10, 6, 11, 12, 13, 14, 15, 16, 17, 18] (by decide +kernel) (by decide +kernel)
set_option maxRecDepth 20000 in
theorem gX2_tuneAll_X2_tuned : GoodIn wsX2_tuneAll (wsV RX2 91 RX2 yX2_tuned wsX2_tuned) := goodIn_app (goodIn_of _ (by decide +kernel)) ggX2_tuneAll_X2_tuned
theorem dX2_tuneAll_0 : decode cX2_tuneAll 0 = .ok (.aload_n 0, 1) := by decide +kernel
theorem dX2_tuneAll_1 : decode cX2_tuneAll 1 = .ok (.iconst 0, 1) := by decide +kernel
theorem dX2_tuneAll_2 : decode cX2_tuneAll 2 = .ok (.putfield 26, 3) := by decide +kernel
theorem dX2_tuneAll_5 : decode cX2_tuneAll 5 = .ok (.iconst 0, 1) := by decide +kernel
theorem dX2_tuneAll_6 : decode cX2_tuneAll 6 = .ok (.istore_n 1, 1) := by decide +kernel
theorem dX2_tuneAll_7 : decode cX2_tuneAll 7 = .ok (.iconst 2, 1) := by decide +kernel
theorem dX2_tuneAll_8 : decode cX2_tuneAll 8 = .ok (.istore_n 2, 1) := by decide +kernel
theorem dX2_tuneAll_9 : decode cX2_tuneAll 9 = .ok (.iload_n 2, 1) := by decide +kernel
theorem dX2_tuneAll_10 : decode cX2_tuneAll 10 = .ok (.bipush 12, 2) := by decide +kernel
theorem dX2_tuneAll_12 : decode cX2_tuneAll 12 = .ok (.if_icmp .gt 33, 3) := by decide +kernel
theorem dX2_tuneAll_15 : decode cX2_tuneAll 15 = .ok (.iload_n 1, 1) := by decide +kernel
theorem dX2_tuneAll_16 : decode cX2_tuneAll 16 = .ok (.aload_n 0, 1) := by decide +kernel
theorem dX2_tuneAll_17 : decode cX2_tuneAll 17 = .ok (.aload_n 0, 1) := by decide +kernel
theorem dX2_tuneAll_18 : decode cX2_tuneAll 18 = .ok (.getfield 7, 3) := by decide +kernel
theorem dX2_tuneAll_21 : decode cX2_tuneAll 21 = .ok (.iload_n 2, 1) := by decide +kernel
theorem dX2_tuneAll_22 : decode cX2_tuneAll 22 = .ok (.iadd, 1) := by decide +kernel
theorem dX2_tuneAll_23 : decode cX2_tuneAll 23 = .ok (.bipush 12, 2) := by decide +kernel
theorem dX2_tuneAll_25 : decode cX2_tuneAll 25 = .ok (.irem, 1) := by decide +kernel
theorem dX2_tuneAll_26 : decode cX2_tuneAll 26 = .ok (.invokevirtual 91, 3) := by decide +kernel
theorem dX2_tuneAll_29 : decode cX2_tuneAll 29 = .ok (.ifCond .ne 7, 3) := by decide +kernel
theorem dX2_tuneAll_32 : decode cX2_tuneAll 32 = .ok (.iconst 0, 1) := by decide +kernel
theorem dX2_tuneAll_33 : decode cX2_tuneAll 33 = .ok (.goto 4, 3) := by decide +kernel
theorem dX2_tuneAll_36 : decode cX2_tuneAll 36 = .ok (.iconst 1, 1) := by decide +kernel
theorem dX2_tuneAll_37 : decode cX2_tuneAll 37 = .ok (.iadd, 1) := by decide +kernel
theorem dX2_tuneAll_38 : decode cX2_tuneAll 38 = .ok (.istore_n 1, 1) := by decide +kernel
theorem dX2_tuneAll_39 : decode cX2_tuneAll 39 = .ok (.iinc 2 1, 3) := by decide +kernel
theorem dX2_tuneAll_42 : decode cX2_tuneAll 42 = .ok (.goto (-33), 3) := by decide +kernel
theorem dX2_tuneAll_45 : decode cX2_tuneAll 45 = .ok (.iload_n 1, 1) := by decide +kernel
theorem dX2_tuneAll_46 : decode cX2_tuneAll 46 = .ok (.ireturn, 1) := by decide +kernel
set_option maxRecDepth 20000 in
theorem ggX2_sweeten_X2_isOne : GoodIn wsX2_sweeten wsX2_isOne := goodIn_r _ [6, 7, 8, 5, 9] (by decide +kernel) (by decide +kernel)
set_option maxRecDepth 20000 in
theorem gX2_sweeten_X2_isOne : GoodIn wsX2_sweeten (va_wsS RX2 74 yX2_isOne wsX2_isOne) := goodIn_app (goodIn_of _ (by decide +kernel)) ggX2_sweeten_X2_isOne
set_option maxRecDepth 20000 in
theorem ggX2_sweeten_X2_no : GoodIn wsX2_sweeten wsX2_no := goodIn_r _ [13, 1, 42, 43, 44, 45, 46, 47, 48] (by decide +kernel) (by decide +kernel)
set_option maxRecDepth 20000 in
theorem gX2_sweeten_X2_no : GoodIn wsX2_sweeten (wsV RX2 78 RX2 yX2_no wsX2_no) := goodIn_app (goodIn_of _ (by decide +kernel)) ggX2_sweeten_X2_no
set_option maxRecDepth 20000 in
theorem ggX2_sweeten_X2_majorOff : GoodIn wsX2_sweeten wsX2_majorOff := goodIn_r _ [17, 18, 19, 20, 5, 21, 22, 23, 24, 25, 2, 26, 27, 28, 29, 30, 31, 42, 43, 44, 45, 46, 47, 48] (by decide +kernel) (by decide +kernel)
set_option maxRecDepth 20000 in
theorem gX2_sweeten_X2_majorOff : GoodIn wsX2_sweeten (wsV RX2 65 RX2 yX2_majorOff wsX2_majorOff) := goodIn_app (goodIn_of _ (by decide +kernel)) ggX2_sweeten_X2_majorOff
set_option maxRecDepth 20000 in
theorem ggX2_sweeten_X2_held : GoodIn wsX2_sweeten wsX2_held := goodIn_r _ [34, 35, 36, 37, 38, 39, 40, 41] (by decide +kernel) (by decide +kernel)
set_option maxRecDepth 20000 in
theorem gX2_sweeten_X2_held : GoodIn wsX2_sweeten (va_wsS RX2 94 yX2_held wsX2_held) := goodIn_app (goodIn_of _ (by decide +kernel)) ggX2_sweeten_X2_held
theorem dX2_sweeten_0 : decode cX2_sweeten 0 = .ok (.aload_n 0, 1) := by decide +kernel
theorem dX2_sweeten_1 : decode cX2_sweeten 1 = .ok (.iconst 0, 1) := by decide +kernel
theorem dX2_sweeten_2 : decode cX2_sweeten 2 = .ok (.putfield 26, 3) := by decide +kernel
theorem dX2_sweeten_5 : decode cX2_sweeten 5 = .ok (.iload_n 1, 1) := by decide +kernel
theorem dX2_sweeten_6 : decode cX2_sweeten 6 = .ok (.invokestatic 74, 3) := by decide +kernel
theorem dX2_sweeten_9 : decode cX2_sweeten 9 = .ok (.ifCond .ne 9, 3) := by decide +kernel
theorem dX2_sweeten_12 : decode cX2_sweeten 12 = .ok (.aload_n 0, 1) := by decide +kernel
theorem dX2_sweeten_13 : decode cX2_sweeten 13 = .ok (.iconst 1, 1) := by decide +kernel
theorem dX2_sweeten_14 : decode cX2_sweeten 14 = .ok (.invokevirtual 78, 3) := by decide +kernel
theorem dX2_sweeten_17 : decode cX2_sweeten 17 = .ok (.ireturn, 1) := by decide +kernel
theorem dX2_sweeten_18 : decode cX2_sweeten 18 = .ok (.iload_n 1, 1) := by decide +kernel
theorem dX2_sweeten_19 : decode cX2_sweeten 19 = .ok (.iconst 4, 1) := by decide +kernel
theorem dX2_sweeten_20 : decode cX2_sweeten 20 = .ok (.iadd, 1) := by decide +kernel
theorem dX2_sweeten_21 : decode cX2_sweeten 21 = .ok (.bipush 12, 2) := by decide +kernel
theorem dX2_sweeten_23 : decode cX2_sweeten 23 = .ok (.irem, 1) := by decide +kernel
theorem dX2_sweeten_24 : decode cX2_sweeten 24 = .ok (.istore_n 2, 1) := by decide +kernel
theorem dX2_sweeten_25 : decode cX2_sweeten 25 = .ok (.aload_n 0, 1) := by decide +kernel
theorem dX2_sweeten_26 : decode cX2_sweeten 26 = .ok (.getfield 23, 3) := by decide +kernel
theorem dX2_sweeten_29 : decode cX2_sweeten 29 = .ok (.iload_n 2, 1) := by decide +kernel
theorem dX2_sweeten_30 : decode cX2_sweeten 30 = .ok (.iaload, 1) := by decide +kernel
theorem dX2_sweeten_31 : decode cX2_sweeten 31 = .ok (.aload_n 0, 1) := by decide +kernel
theorem dX2_sweeten_32 : decode cX2_sweeten 32 = .ok (.iload_n 1, 1) := by decide +kernel
theorem dX2_sweeten_33 : decode cX2_sweeten 33 = .ok (.invokevirtual 65, 3) := by decide +kernel
theorem dX2_sweeten_36 : decode cX2_sweeten 36 = .ok (.isub, 1) := by decide +kernel
theorem dX2_sweeten_37 : decode cX2_sweeten 37 = .ok (.istore_n 3, 1) := by decide +kernel
theorem dX2_sweeten_38 : decode cX2_sweeten 38 = .ok (.iload_n 3, 1) := by decide +kernel
theorem dX2_sweeten_39 : decode cX2_sweeten 39 = .ok (.invokestatic 94, 3) := by decide +kernel
theorem dX2_sweeten_42 : decode cX2_sweeten 42 = .ok (.iload_n 3, 1) := by decide +kernel
theorem dX2_sweeten_43 : decode cX2_sweeten 43 = .ok (.if_icmp .eq 9, 3) := by decide +kernel
theorem dX2_sweeten_46 : decode cX2_sweeten 46 = .ok (.aload_n 0, 1) := by decide +kernel
theorem dX2_sweeten_47 : decode cX2_sweeten 47 = .ok (.iconst 2, 1) := by decide +kernel
theorem dX2_sweeten_48 : decode cX2_sweeten 48 = .ok (.invokevirtual 78, 3) := by decide +kernel
theorem dX2_sweeten_51 : decode cX2_sweeten 51 = .ok (.ireturn, 1) := by decide +kernel
theorem dX2_sweeten_52 : decode cX2_sweeten 52 = .ok (.aload_n 0, 1) := by decide +kernel
theorem dX2_sweeten_53 : decode cX2_sweeten 53 = .ok (.getfield 23, 3) := by decide +kernel
theorem dX2_sweeten_56 : decode cX2_sweeten 56 = .ok (.iload_n 2, 1) := by decide +kernel
theorem dX2_sweeten_57 : decode cX2_sweeten 57 = .ok (.iload_n 3, 1) := by decide +kernel
theorem dX2_sweeten_58 : decode cX2_sweeten 58 = .ok (.iastore, 1) := by decide +kernel
theorem dX2_sweeten_59 : decode cX2_sweeten 59 = .ok (.iload_n 3, 1) := by decide +kernel
theorem dX2_sweeten_60 : decode cX2_sweeten 60 = .ok (.ireturn, 1) := by decide +kernel
set_option maxRecDepth 20000 in
theorem ggX2_pass_X2_held : GoodIn wsX2_pass wsX2_held := goodIn_r _ [7, 8, 9, 10, 11, 12, 13, 14] (by decide +kernel) (by decide +kernel)
set_option maxRecDepth 20000 in
theorem gX2_pass_X2_held : GoodIn wsX2_pass (va_wsS RX2 94 yX2_held wsX2_held) := goodIn_app (goodIn_of _ (by decide +kernel)) ggX2_pass_X2_held
theorem dX2_pass_0 : decode cX2_pass 0 = .ok (.iconst 0, 1) := by decide +kernel
theorem dX2_pass_1 : decode cX2_pass 1 = .ok (.istore_n 1, 1) := by decide +kernel
theorem dX2_pass_2 : decode cX2_pass 2 = .ok (.iload_n 1, 1) := by decide +kernel
theorem dX2_pass_3 : decode cX2_pass 3 = .ok (.bipush 12, 2) := by decide +kernel
theorem dX2_pass_5 : decode cX2_pass 5 = .ok (.if_icmp .ge 31, 3) := by decide +kernel
theorem dX2_pass_8 : decode cX2_pass 8 = .ok (.aload_n 0, 1) := by decide +kernel
theorem dX2_pass_9 : decode cX2_pass 9 = .ok (.getfield 23, 3) := by decide +kernel
theorem dX2_pass_12 : decode cX2_pass 12 = .ok (.iload_n 1, 1) := by decide +kernel
theorem dX2_pass_13 : decode cX2_pass 13 = .ok (.aload_n 0, 1) := by decide +kernel
theorem dX2_pass_14 : decode cX2_pass 14 = .ok (.getfield 23, 3) := by decide +kernel
theorem dX2_pass_17 : decode cX2_pass 17 = .ok (.iload_n 1, 1) := by decide +kernel
theorem dX2_pass_18 : decode cX2_pass 18 = .ok (.iaload, 1) := by decide +kernel
theorem dX2_pass_19 : decode cX2_pass 19 = .ok (.aload_n 0, 1) := by decide +kernel
theorem dX2_pass_20 : decode cX2_pass 20 = .ok (.getfield 17, 3) := by decide +kernel
theorem dX2_pass_23 : decode cX2_pass 23 = .ok (.iload_n 1, 1) := by decide +kernel
theorem dX2_pass_24 : decode cX2_pass 24 = .ok (.iaload, 1) := by decide +kernel
theorem dX2_pass_25 : decode cX2_pass 25 = .ok (.iadd, 1) := by decide +kernel
theorem dX2_pass_26 : decode cX2_pass 26 = .ok (.invokestatic 94, 3) := by decide +kernel
theorem dX2_pass_29 : decode cX2_pass 29 = .ok (.iastore, 1) := by decide +kernel
theorem dX2_pass_30 : decode cX2_pass 30 = .ok (.iinc 1 1, 3) := by decide +kernel
theorem dX2_pass_33 : decode cX2_pass 33 = .ok (.goto (-31), 3) := by decide +kernel
theorem dX2_pass_36 : decode cX2_pass 36 = .ok (.aload_n 0, 1) := by decide +kernel
theorem dX2_pass_37 : decode cX2_pass 37 = .ok (.dup, 1) := by decide +kernel
theorem dX2_pass_38 : decode cX2_pass 38 = .ok (.getfield 97, 3) := by decide +kernel
theorem dX2_pass_41 : decode cX2_pass 41 = .ok (.iconst 1, 1) := by decide +kernel
theorem dX2_pass_42 : decode cX2_pass 42 = .ok (.iadd, 1) := by decide +kernel
theorem dX2_pass_43 : decode cX2_pass 43 = .ok (.putfield 97, 3) := by decide +kernel
theorem dX2_pass_46 : decode cX2_pass 46 = .ok (.return_, 1) := by decide +kernel
set_option maxRecDepth 20000 in
theorem ggX2_pass__X2_isIn : GoodIn wsX2_pass_ wsX2_isIn := goodIn_r _ [13] (by decide +kernel) (by decide +kernel)
set_option maxRecDepth 20000 in
theorem gX2_pass__X2_isIn : GoodIn wsX2_pass_ (va_wsS RX2 29 yX2_isIn wsX2_isIn) := goodIn_app (goodIn_of _ (by decide +kernel)) ggX2_pass__X2_isIn
set_option maxRecDepth 20000 in
theorem ggX2_pass__X2_no : GoodIn wsX2_pass_ wsX2_no := goodIn_r _ [17, 1, 30, 31, 32, 33, 34, 35, 36] (by decide +kernel) (by decide +kernel)
set_option maxRecDepth 20000 in
theorem gX2_pass__X2_no : GoodIn wsX2_pass_ (wsV RX2 78 RX2 yX2_no wsX2_no) := goodIn_app (goodIn_of _ (by decide +kernel)) ggX2_pass__X2_no
set_option maxRecDepth 20000 in
theorem ggX2_pass__X2_pass : GoodIn wsX2_pass_ wsX2_pass := goodIn_r _ [21, 2, 22, 23, 24, 25, 12, 26, 27, 28, 5, 29, 7, 8, 9, 30, 31, 32, 33, 34, 35, 36] (by decide +kernel) (by decide +kernel)
set_option maxRecDepth 20000 in
theorem gX2_pass__X2_pass : GoodIn wsX2_pass_ (wsV RX2 100 RX2 yX2_pass wsX2_pass) := goodIn_app (goodIn_of _ (by decide +kernel)) ggX2_pass__X2_pass
theorem dX2_pass__0 : decode cX2_pass_ 0 = .ok (.aload_n 0, 1) := by decide +kernel
theorem dX2_pass__1 : decode cX2_pass_ 1 = .ok (.iconst 0, 1) := by decide +kernel
theorem dX2_pass__2 : decode cX2_pass_ 2 = .ok (.putfield 26, 3) := by decide +kernel
theorem dX2_pass__5 : decode cX2_pass_ 5 = .ok (.iload_n 1, 1) := by decide +kernel
theorem dX2_pass__6 : decode cX2_pass_ 6 = .ok (.iconst 1, 1) := by decide +kernel
theorem dX2_pass__7 : decode cX2_pass_ 7 = .ok (.bipush 100, 2) := by decide +kernel
theorem dX2_pass__9 : decode cX2_pass_ 9 = .ok (.invokestatic 29, 3) := by decide +kernel
theorem dX2_pass__12 : decode cX2_pass_ 12 = .ok (.ifCond .ne 9, 3) := by decide +kernel
theorem dX2_pass__15 : decode cX2_pass_ 15 = .ok (.aload_n 0, 1) := by decide +kernel
theorem dX2_pass__16 : decode cX2_pass_ 16 = .ok (.iconst 1, 1) := by decide +kernel
theorem dX2_pass__17 : decode cX2_pass_ 17 = .ok (.invokevirtual 78, 3) := by decide +kernel
theorem dX2_pass__20 : decode cX2_pass_ 20 = .ok (.ireturn, 1) := by decide +kernel
theorem dX2_pass__21 : decode cX2_pass_ 21 = .ok (.iconst 0, 1) := by decide +kernel
theorem dX2_pass__22 : decode cX2_pass_ 22 = .ok (.istore_n 2, 1) := by decide +kernel
theorem dX2_pass__23 : decode cX2_pass_ 23 = .ok (.iload_n 2, 1) := by decide +kernel
theorem dX2_pass__24 : decode cX2_pass_ 24 = .ok (.iload_n 1, 1) := by decide +kernel
theorem dX2_pass__25 : decode cX2_pass_ 25 = .ok (.if_icmp .ge 13, 3) := by decide +kernel
theorem dX2_pass__28 : decode cX2_pass_ 28 = .ok (.aload_n 0, 1) := by decide +kernel
theorem dX2_pass__29 : decode cX2_pass_ 29 = .ok (.invokevirtual 100, 3) := by decide +kernel
theorem dX2_pass__32 : decode cX2_pass_ 32 = .ok (.iinc 2 1, 3) := by decide +kernel
theorem dX2_pass__35 : decode cX2_pass_ 35 = .ok (.goto (-12), 3) := by decide +kernel
theorem dX2_pass__38 : decode cX2_pass_ 38 = .ok (.iconst 0, 1) := by decide +kernel
theorem dX2_pass__39 : decode cX2_pass_ 39 = .ok (.istore_n 2, 1) := by decide +kernel
theorem dX2_pass__40 : decode cX2_pass_ 40 = .ok (.aload_n 0, 1) := by decide +kernel
theorem dX2_pass__41 : decode cX2_pass_ 41 = .ok (.getfield 23, 3) := by decide +kernel
theorem dX2_pass__44 : decode cX2_pass_ 44 = .ok (.astore_n 3, 1) := by decide +kernel
theorem dX2_pass__45 : decode cX2_pass_ 45 = .ok (.aload_n 3, 1) := by decide +kernel
theorem dX2_pass__46 : decode cX2_pass_ 46 = .ok (.arraylength, 1) := by decide +kernel
theorem dX2_pass__47 : decode cX2_pass_ 47 = .ok (.istore 4, 2) := by decide +kernel
theorem dX2_pass__49 : decode cX2_pass_ 49 = .ok (.iconst 0, 1) := by decide +kernel
theorem dX2_pass__50 : decode cX2_pass_ 50 = .ok (.istore 5, 2) := by decide +kernel
theorem dX2_pass__52 : decode cX2_pass_ 52 = .ok (.iload 5, 2) := by decide +kernel
theorem dX2_pass__54 : decode cX2_pass_ 54 = .ok (.iload 4, 2) := by decide +kernel
theorem dX2_pass__56 : decode cX2_pass_ 56 = .ok (.if_icmp .ge 25, 3) := by decide +kernel
theorem dX2_pass__59 : decode cX2_pass_ 59 = .ok (.aload_n 3, 1) := by decide +kernel
theorem dX2_pass__60 : decode cX2_pass_ 60 = .ok (.iload 5, 2) := by decide +kernel
theorem dX2_pass__62 : decode cX2_pass_ 62 = .ok (.iaload, 1) := by decide +kernel
theorem dX2_pass__63 : decode cX2_pass_ 63 = .ok (.istore 6, 2) := by decide +kernel
theorem dX2_pass__65 : decode cX2_pass_ 65 = .ok (.iload_n 2, 1) := by decide +kernel
theorem dX2_pass__66 : decode cX2_pass_ 66 = .ok (.iload 6, 2) := by decide +kernel
theorem dX2_pass__68 : decode cX2_pass_ 68 = .ok (.invokestatic 58, 3) := by decide +kernel
theorem dX2_pass__71 : decode cX2_pass_ 71 = .ok (.invokestatic 39, 3) := by decide +kernel
theorem dX2_pass__74 : decode cX2_pass_ 74 = .ok (.istore_n 2, 1) := by decide +kernel
theorem dX2_pass__75 : decode cX2_pass_ 75 = .ok (.iinc 5 1, 3) := by decide +kernel
theorem dX2_pass__78 : decode cX2_pass_ 78 = .ok (.goto (-26), 3) := by decide +kernel
theorem dX2_pass__81 : decode cX2_pass_ 81 = .ok (.iload_n 2, 1) := by decide +kernel
theorem dX2_pass__82 : decode cX2_pass_ 82 = .ok (.ireturn, 1) := by decide +kernel
set_option maxRecDepth 20000 in
theorem ggX2_fifthTold_X2_planOf : GoodIn wsX2_fifthTold wsX2_planOf := goodIn_r _ [6, 1, 7, 32, 33, 34, 35, 36, 37, 38] (by decide +kernel) (by decide +kernel)
set_option maxRecDepth 20000 in
theorem gX2_fifthTold_X2_planOf : GoodIn wsX2_fifthTold (wsV RX2 46 RX2 yX2_planOf wsX2_planOf) := goodIn_app (goodIn_of _ (by decide +kernel)) ggX2_fifthTold_X2_planOf
set_option maxRecDepth 20000 in
theorem ggX2_fifthTold_X2_narrow : GoodIn wsX2_fifthTold wsX2_narrow := goodIn_r _ [11, 12, 13, 14, 5, 15, 16, 2, 3, 4, 6, 1, 7, 32, 33, 34, 35, 36, 37, 38] (by decide +kernel) (by decide +kernel)
set_option maxRecDepth 20000 in
theorem gX2_fifthTold_X2_narrow : GoodIn wsX2_fifthTold (wsV RX2 49 RX2 yX2_narrow wsX2_narrow) := goodIn_app (goodIn_of _ (by decide +kernel)) ggX2_fifthTold_X2_narrow
set_option maxRecDepth 20000 in
theorem ggX2_fifthTold_X2_fifthBeats : GoodIn wsX2_fifthTold wsX2_fifthBeats := goodIn_r _ [20, 8, 9, 10, 5, 11, 12, 13, 14, 15, 16, 2, 3, 4, 6, 1, 7, 21, 22, 23, 24, 25, 26, 27, 28, 29, 30, 31, 32, 33, 34, 35, 36, 37, 38] (by decide +kernel) (by decide +kernel)
set_option maxRecDepth 20000 in
theorem gX2_fifthTold_X2_fifthBeats : GoodIn wsX2_fifthTold (wsV RX2 71 RX2 yX2_fifthBeats wsX2_fifthBeats) := goodIn_app (goodIn_of _ (by decide +kernel)) ggX2_fifthTold_X2_fifthBeats
theorem dX2_fifthTold_0 : decode cX2_fifthTold 0 = .ok (.iload_n 2, 1) := by decide +kernel
theorem dX2_fifthTold_1 : decode cX2_fifthTold 1 = .ok (.tableswitch 61 0 3 #[31, 37, 44, 55], 31) := by decide +kernel
theorem dX2_fifthTold_32 : decode cX2_fifthTold 32 = .ok (.aload_n 0, 1) := by decide +kernel
theorem dX2_fifthTold_33 : decode cX2_fifthTold 33 = .ok (.iload_n 1, 1) := by decide +kernel
theorem dX2_fifthTold_34 : decode cX2_fifthTold 34 = .ok (.invokevirtual 46, 3) := by decide +kernel
theorem dX2_fifthTold_37 : decode cX2_fifthTold 37 = .ok (.ireturn, 1) := by decide +kernel
theorem dX2_fifthTold_38 : decode cX2_fifthTold 38 = .ok (.aload_n 0, 1) := by decide +kernel
theorem dX2_fifthTold_39 : decode cX2_fifthTold 39 = .ok (.iload_n 1, 1) := by decide +kernel
theorem dX2_fifthTold_40 : decode cX2_fifthTold 40 = .ok (.iconst 1, 1) := by decide +kernel
theorem dX2_fifthTold_41 : decode cX2_fifthTold 41 = .ok (.invokevirtual 49, 3) := by decide +kernel
theorem dX2_fifthTold_44 : decode cX2_fifthTold 44 = .ok (.ireturn, 1) := by decide +kernel
theorem dX2_fifthTold_45 : decode cX2_fifthTold 45 = .ok (.sipush 702, 3) := by decide +kernel
theorem dX2_fifthTold_48 : decode cX2_fifthTold 48 = .ok (.aload_n 0, 1) := by decide +kernel
theorem dX2_fifthTold_49 : decode cX2_fifthTold 49 = .ok (.iload_n 1, 1) := by decide +kernel
theorem dX2_fifthTold_50 : decode cX2_fifthTold 50 = .ok (.iconst 1, 1) := by decide +kernel
theorem dX2_fifthTold_51 : decode cX2_fifthTold 51 = .ok (.invokevirtual 49, 3) := by decide +kernel
theorem dX2_fifthTold_54 : decode cX2_fifthTold 54 = .ok (.isub, 1) := by decide +kernel
theorem dX2_fifthTold_55 : decode cX2_fifthTold 55 = .ok (.ireturn, 1) := by decide +kernel
theorem dX2_fifthTold_56 : decode cX2_fifthTold 56 = .ok (.aload_n 0, 1) := by decide +kernel
theorem dX2_fifthTold_57 : decode cX2_fifthTold 57 = .ok (.iload_n 1, 1) := by decide +kernel
theorem dX2_fifthTold_58 : decode cX2_fifthTold 58 = .ok (.invokevirtual 71, 3) := by decide +kernel
theorem dX2_fifthTold_61 : decode cX2_fifthTold 61 = .ok (.ireturn, 1) := by decide +kernel
theorem dX2_fifthTold_62 : decode cX2_fifthTold 62 = .ok (.iload_n 1, 1) := by decide +kernel
theorem dX2_fifthTold_63 : decode cX2_fifthTold 63 = .ok (.aload_n 0, 1) := by decide +kernel
theorem dX2_fifthTold_64 : decode cX2_fifthTold 64 = .ok (.getfield 7, 3) := by decide +kernel
theorem dX2_fifthTold_67 : decode cX2_fifthTold 67 = .ok (.if_icmp .ne 7, 3) := by decide +kernel
theorem dX2_fifthTold_70 : decode cX2_fifthTold 70 = .ok (.iconst 1, 1) := by decide +kernel
theorem dX2_fifthTold_71 : decode cX2_fifthTold 71 = .ok (.goto 4, 3) := by decide +kernel
theorem dX2_fifthTold_74 : decode cX2_fifthTold 74 = .ok (.iconst 0, 1) := by decide +kernel
theorem dX2_fifthTold_75 : decode cX2_fifthTold 75 = .ok (.ireturn, 1) := by decide +kernel
set_option maxRecDepth 20000 in
theorem ggX2_fifth_X2_isOne : GoodIn wsX2_fifth wsX2_isOne := goodIn_r _ [5, 6, 7, 4, 8] (by decide +kernel) (by decide +kernel)
set_option maxRecDepth 20000 in
theorem gX2_fifth_X2_isOne : GoodIn wsX2_fifth (va_wsS RX2 74 yX2_isOne wsX2_isOne) := goodIn_app (goodIn_of _ (by decide +kernel)) ggX2_fifth_X2_isOne
set_option maxRecDepth 20000 in
theorem ggX2_fifth_X2_isIn : GoodIn wsX2_fifth wsX2_isIn := goodIn_r _ [8] (by decide +kernel) (by decide +kernel)
set_option maxRecDepth 20000 in
theorem gX2_fifth_X2_isIn : GoodIn wsX2_fifth (va_wsS RX2 29 yX2_isIn wsX2_isIn) := goodIn_app (goodIn_of _ (by decide +kernel)) ggX2_fifth_X2_isIn
set_option maxRecDepth 20000 in
theorem ggX2_fifth_X2_fifthTold : GoodIn wsX2_fifth wsX2_fifthTold := goodIn_r _ [12, 13, 14, 15, 16, 4, 17, 18, 19, 20, 21, 22, 23, 24, 25, 26, 27, 28, 29, 30, 31, 32, 33, 34, 35, 36, 37, 38, 39, 40, 41, 42, 47, 48, 49, 50, 51, 52, 53] (by decide +kernel) (by decide +kernel)
set_option maxRecDepth 20000 in
theorem gX2_fifth_X2_fifthTold : GoodIn wsX2_fifth (wsV RX2 103 RX2 yX2_fifthTold wsX2_fifthTold) := goodIn_app (goodIn_of _ (by decide +kernel)) ggX2_fifth_X2_fifthTold
set_option maxRecDepth 20000 in
theorem ggX2_fifth_X2_no : GoodIn wsX2_fifth wsX2_no := goodIn_r _ [46, 1, 47, 48, 49, 50, 51, 52, 53] (by decide +kernel) (by decide +kernel)
set_option maxRecDepth 20000 in
theorem gX2_fifth_X2_no : GoodIn wsX2_fifth (wsV RX2 78 RX2 yX2_no wsX2_no) := goodIn_app (goodIn_of _ (by decide +kernel)) ggX2_fifth_X2_no
theorem dX2_fifth_0 : decode cX2_fifth 0 = .ok (.aload_n 0, 1) := by decide +kernel
theorem dX2_fifth_1 : decode cX2_fifth 1 = .ok (.iconst 0, 1) := by decide +kernel
theorem dX2_fifth_2 : decode cX2_fifth 2 = .ok (.putfield 26, 3) := by decide +kernel
theorem dX2_fifth_5 : decode cX2_fifth 5 = .ok (.iload_n 1, 1) := by decide +kernel
theorem dX2_fifth_6 : decode cX2_fifth 6 = .ok (.invokestatic 74, 3) := by decide +kernel
theorem dX2_fifth_9 : decode cX2_fifth 9 = .ok (.ifCond .eq 21, 3) := by decide +kernel
theorem dX2_fifth_12 : decode cX2_fifth 12 = .ok (.iload_n 2, 1) := by decide +kernel
theorem dX2_fifth_13 : decode cX2_fifth 13 = .ok (.iconst 0, 1) := by decide +kernel
theorem dX2_fifth_14 : decode cX2_fifth 14 = .ok (.iconst 4, 1) := by decide +kernel
theorem dX2_fifth_15 : decode cX2_fifth 15 = .ok (.invokestatic 29, 3) := by decide +kernel
theorem dX2_fifth_18 : decode cX2_fifth 18 = .ok (.ifCond .eq 12, 3) := by decide +kernel
theorem dX2_fifth_21 : decode cX2_fifth 21 = .ok (.aload_n 0, 1) := by decide +kernel
theorem dX2_fifth_22 : decode cX2_fifth 22 = .ok (.iload_n 1, 1) := by decide +kernel
theorem dX2_fifth_23 : decode cX2_fifth 23 = .ok (.iload_n 2, 1) := by decide +kernel
theorem dX2_fifth_24 : decode cX2_fifth 24 = .ok (.invokevirtual 103, 3) := by decide +kernel
theorem dX2_fifth_27 : decode cX2_fifth 27 = .ok (.goto 8, 3) := by decide +kernel
theorem dX2_fifth_30 : decode cX2_fifth 30 = .ok (.aload_n 0, 1) := by decide +kernel
theorem dX2_fifth_31 : decode cX2_fifth 31 = .ok (.iconst 1, 1) := by decide +kernel
theorem dX2_fifth_32 : decode cX2_fifth 32 = .ok (.invokevirtual 78, 3) := by decide +kernel
theorem dX2_fifth_35 : decode cX2_fifth 35 = .ok (.ireturn, 1) := by decide +kernel
set_option maxRecDepth 20000 in
theorem ggX2_majorTold_X2_majorOff : GoodIn wsX2_majorTold wsX2_majorOff := goodIn_r _ [5, 6, 7, 8, 4, 9, 10, 11, 12, 13, 14, 15, 16, 17, 18, 19, 20, 32, 33, 34, 35, 36, 37, 38] (by decide +kernel) (by decide +kernel)
set_option maxRecDepth 20000 in
theorem gX2_majorTold_X2_majorOff : GoodIn wsX2_majorTold (wsV RX2 65 RX2 yX2_majorOff wsX2_majorOff) := goodIn_app (goodIn_of _ (by decide +kernel)) ggX2_majorTold_X2_majorOff
set_option maxRecDepth 20000 in
theorem ggX2_majorTold_X2_beats : GoodIn wsX2_majorTold wsX2_beats := goodIn_r _ [23, 24, 25, 26, 27, 28, 29, 30, 4, 31] (by decide +kernel) (by decide +kernel)
set_option maxRecDepth 20000 in
theorem gX2_majorTold_X2_beats : GoodIn wsX2_majorTold (va_wsS RX2 61 yX2_beats wsX2_beats) := goodIn_app (goodIn_of _ (by decide +kernel)) ggX2_majorTold_X2_beats
theorem dX2_majorTold_0 : decode cX2_majorTold 0 = .ok (.iload_n 2, 1) := by decide +kernel
theorem dX2_majorTold_1 : decode cX2_majorTold 1 = .ok (.ifCond .ne 15, 3) := by decide +kernel
theorem dX2_majorTold_4 : decode cX2_majorTold 4 = .ok (.sipush 386, 3) := by decide +kernel
theorem dX2_majorTold_7 : decode cX2_majorTold 7 = .ok (.aload_n 0, 1) := by decide +kernel
theorem dX2_majorTold_8 : decode cX2_majorTold 8 = .ok (.iload_n 1, 1) := by decide +kernel
theorem dX2_majorTold_9 : decode cX2_majorTold 9 = .ok (.invokevirtual 65, 3) := by decide +kernel
theorem dX2_majorTold_12 : decode cX2_majorTold 12 = .ok (.iadd, 1) := by decide +kernel
theorem dX2_majorTold_13 : decode cX2_majorTold 13 = .ok (.goto 28, 3) := by decide +kernel
theorem dX2_majorTold_16 : decode cX2_majorTold 16 = .ok (.iload_n 2, 1) := by decide +kernel
theorem dX2_majorTold_17 : decode cX2_majorTold 17 = .ok (.iconst 1, 1) := by decide +kernel
theorem dX2_majorTold_18 : decode cX2_majorTold 18 = .ok (.if_icmp .ne 11, 3) := by decide +kernel
theorem dX2_majorTold_21 : decode cX2_majorTold 21 = .ok (.aload_n 0, 1) := by decide +kernel
theorem dX2_majorTold_22 : decode cX2_majorTold 22 = .ok (.iload_n 1, 1) := by decide +kernel
theorem dX2_majorTold_23 : decode cX2_majorTold 23 = .ok (.invokevirtual 65, 3) := by decide +kernel
theorem dX2_majorTold_26 : decode cX2_majorTold 26 = .ok (.goto 15, 3) := by decide +kernel
theorem dX2_majorTold_29 : decode cX2_majorTold 29 = .ok (.iload_n 1, 1) := by decide +kernel
theorem dX2_majorTold_30 : decode cX2_majorTold 30 = .ok (.aload_n 0, 1) := by decide +kernel
theorem dX2_majorTold_31 : decode cX2_majorTold 31 = .ok (.iload_n 1, 1) := by decide +kernel
theorem dX2_majorTold_32 : decode cX2_majorTold 32 = .ok (.invokevirtual 65, 3) := by decide +kernel
theorem dX2_majorTold_35 : decode cX2_majorTold 35 = .ok (.sipush 346, 3) := by decide +kernel
theorem dX2_majorTold_38 : decode cX2_majorTold 38 = .ok (.invokestatic 61, 3) := by decide +kernel
theorem dX2_majorTold_41 : decode cX2_majorTold 41 = .ok (.ireturn, 1) := by decide +kernel
set_option maxRecDepth 20000 in
theorem ggX2_major_X2_isOne : GoodIn wsX2_major wsX2_isOne := goodIn_r _ [5, 6, 7, 4, 8] (by decide +kernel) (by decide +kernel)
set_option maxRecDepth 20000 in
theorem gX2_major_X2_isOne : GoodIn wsX2_major (va_wsS RX2 74 yX2_isOne wsX2_isOne) := goodIn_app (goodIn_of _ (by decide +kernel)) ggX2_major_X2_isOne
set_option maxRecDepth 20000 in
theorem ggX2_major_X2_isIn : GoodIn wsX2_major wsX2_isIn := goodIn_r _ [8] (by decide +kernel) (by decide +kernel)
set_option maxRecDepth 20000 in
theorem gX2_major_X2_isIn : GoodIn wsX2_major (va_wsS RX2 29 yX2_isIn wsX2_isIn) := goodIn_app (goodIn_of _ (by decide +kernel)) ggX2_major_X2_isIn
set_option maxRecDepth 20000 in
theorem ggX2_major_X2_majorTold : GoodIn wsX2_major wsX2_majorTold := goodIn_r _ [12, 13, 14, 15, 4, 16, 17, 18, 19, 20, 21, 22, 23, 24, 25, 26, 27, 28, 29, 30, 31, 32, 33, 34, 35, 36, 37, 38, 39, 40, 41, 42, 47, 48, 49, 50, 51, 52, 53] (by decide +kernel) (by decide +kernel)
set_option maxRecDepth 20000 in
theorem gX2_major_X2_majorTold : GoodIn wsX2_major (wsV RX2 106 RX2 yX2_majorTold wsX2_majorTold) := goodIn_app (goodIn_of _ (by decide +kernel)) ggX2_major_X2_majorTold
set_option maxRecDepth 20000 in
theorem ggX2_major_X2_no : GoodIn wsX2_major wsX2_no := goodIn_r _ [46, 1, 47, 48, 49, 50, 51, 52, 53] (by decide +kernel) (by decide +kernel)
set_option maxRecDepth 20000 in
theorem gX2_major_X2_no : GoodIn wsX2_major (wsV RX2 78 RX2 yX2_no wsX2_no) := goodIn_app (goodIn_of _ (by decide +kernel)) ggX2_major_X2_no
theorem dX2_major_0 : decode cX2_major 0 = .ok (.aload_n 0, 1) := by decide +kernel
theorem dX2_major_1 : decode cX2_major 1 = .ok (.iconst 0, 1) := by decide +kernel
theorem dX2_major_2 : decode cX2_major 2 = .ok (.putfield 26, 3) := by decide +kernel
theorem dX2_major_5 : decode cX2_major 5 = .ok (.iload_n 1, 1) := by decide +kernel
theorem dX2_major_6 : decode cX2_major 6 = .ok (.invokestatic 74, 3) := by decide +kernel
theorem dX2_major_9 : decode cX2_major 9 = .ok (.ifCond .eq 21, 3) := by decide +kernel
theorem dX2_major_12 : decode cX2_major 12 = .ok (.iload_n 2, 1) := by decide +kernel
theorem dX2_major_13 : decode cX2_major 13 = .ok (.iconst 0, 1) := by decide +kernel
theorem dX2_major_14 : decode cX2_major 14 = .ok (.iconst 2, 1) := by decide +kernel
theorem dX2_major_15 : decode cX2_major 15 = .ok (.invokestatic 29, 3) := by decide +kernel
theorem dX2_major_18 : decode cX2_major 18 = .ok (.ifCond .eq 12, 3) := by decide +kernel
theorem dX2_major_21 : decode cX2_major 21 = .ok (.aload_n 0, 1) := by decide +kernel
theorem dX2_major_22 : decode cX2_major 22 = .ok (.iload_n 1, 1) := by decide +kernel
theorem dX2_major_23 : decode cX2_major 23 = .ok (.iload_n 2, 1) := by decide +kernel
theorem dX2_major_24 : decode cX2_major 24 = .ok (.invokevirtual 106, 3) := by decide +kernel
theorem dX2_major_27 : decode cX2_major 27 = .ok (.goto 8, 3) := by decide +kernel
theorem dX2_major_30 : decode cX2_major 30 = .ok (.aload_n 0, 1) := by decide +kernel
theorem dX2_major_31 : decode cX2_major 31 = .ok (.iconst 1, 1) := by decide +kernel
theorem dX2_major_32 : decode cX2_major 32 = .ok (.invokevirtual 78, 3) := by decide +kernel
theorem dX2_major_35 : decode cX2_major 35 = .ok (.ireturn, 1) := by decide +kernel
set_option maxRecDepth 20000 in
theorem ggX2_minorTold_X2_minorOff : GoodIn wsX2_minorTold wsX2_minorOff := goodIn_r _ [5, 6, 7, 8, 4, 9, 10, 11, 12, 13, 14, 15, 16, 17, 18, 19, 20, 21, 22, 23, 24, 25, 26, 27] (by decide +kernel) (by decide +kernel)
set_option maxRecDepth 20000 in
theorem gX2_minorTold_X2_minorOff : GoodIn wsX2_minorTold (wsV RX2 109 RX2 yX2_minorOff wsX2_minorOff) := goodIn_app (goodIn_of _ (by decide +kernel)) ggX2_minorTold_X2_minorOff
theorem dX2_minorTold_0 : decode cX2_minorTold 0 = .ok (.iload_n 2, 1) := by decide +kernel
theorem dX2_minorTold_1 : decode cX2_minorTold 1 = .ok (.ifCond .ne 15, 3) := by decide +kernel
theorem dX2_minorTold_4 : decode cX2_minorTold 4 = .ok (.sipush 316, 3) := by decide +kernel
theorem dX2_minorTold_7 : decode cX2_minorTold 7 = .ok (.aload_n 0, 1) := by decide +kernel
theorem dX2_minorTold_8 : decode cX2_minorTold 8 = .ok (.iload_n 1, 1) := by decide +kernel
theorem dX2_minorTold_9 : decode cX2_minorTold 9 = .ok (.invokevirtual 109, 3) := by decide +kernel
theorem dX2_minorTold_12 : decode cX2_minorTold 12 = .ok (.iadd, 1) := by decide +kernel
theorem dX2_minorTold_13 : decode cX2_minorTold 13 = .ok (.goto 8, 3) := by decide +kernel
theorem dX2_minorTold_16 : decode cX2_minorTold 16 = .ok (.aload_n 0, 1) := by decide +kernel
theorem dX2_minorTold_17 : decode cX2_minorTold 17 = .ok (.iload_n 1, 1) := by decide +kernel
theorem dX2_minorTold_18 : decode cX2_minorTold 18 = .ok (.invokevirtual 109, 3) := by decide +kernel
theorem dX2_minorTold_21 : decode cX2_minorTold 21 = .ok (.ireturn, 1) := by decide +kernel
set_option maxRecDepth 20000 in
theorem ggX2_minor_X2_isOne : GoodIn wsX2_minor wsX2_isOne := goodIn_r _ [5, 6, 7, 4, 8] (by decide +kernel) (by decide +kernel)
set_option maxRecDepth 20000 in
theorem gX2_minor_X2_isOne : GoodIn wsX2_minor (va_wsS RX2 74 yX2_isOne wsX2_isOne) := goodIn_app (goodIn_of _ (by decide +kernel)) ggX2_minor_X2_isOne
set_option maxRecDepth 20000 in
theorem ggX2_minor_X2_isIn : GoodIn wsX2_minor wsX2_isIn := goodIn_r _ [8] (by decide +kernel) (by decide +kernel)
set_option maxRecDepth 20000 in
theorem gX2_minor_X2_isIn : GoodIn wsX2_minor (va_wsS RX2 29 yX2_isIn wsX2_isIn) := goodIn_app (goodIn_of _ (by decide +kernel)) ggX2_minor_X2_isIn
set_option maxRecDepth 20000 in
theorem ggX2_minor_X2_minorTold : GoodIn wsX2_minor wsX2_minorTold := goodIn_r _ [12, 13, 14, 15, 4, 16, 17, 18, 19, 20, 21, 22, 23, 24, 25, 26, 27, 28, 29, 30, 31, 36, 37, 38, 39, 40, 41, 42] (by decide +kernel) (by decide +kernel)
set_option maxRecDepth 20000 in
theorem gX2_minor_X2_minorTold : GoodIn wsX2_minor (wsV RX2 112 RX2 yX2_minorTold wsX2_minorTold) := goodIn_app (goodIn_of _ (by decide +kernel)) ggX2_minor_X2_minorTold
set_option maxRecDepth 20000 in
theorem ggX2_minor_X2_no : GoodIn wsX2_minor wsX2_no := goodIn_r _ [35, 1, 36, 37, 38, 39, 40, 41, 42] (by decide +kernel) (by decide +kernel)
set_option maxRecDepth 20000 in
theorem gX2_minor_X2_no : GoodIn wsX2_minor (wsV RX2 78 RX2 yX2_no wsX2_no) := goodIn_app (goodIn_of _ (by decide +kernel)) ggX2_minor_X2_no
theorem dX2_minor_0 : decode cX2_minor 0 = .ok (.aload_n 0, 1) := by decide +kernel
theorem dX2_minor_1 : decode cX2_minor 1 = .ok (.iconst 0, 1) := by decide +kernel
theorem dX2_minor_2 : decode cX2_minor 2 = .ok (.putfield 26, 3) := by decide +kernel
theorem dX2_minor_5 : decode cX2_minor 5 = .ok (.iload_n 1, 1) := by decide +kernel
theorem dX2_minor_6 : decode cX2_minor 6 = .ok (.invokestatic 74, 3) := by decide +kernel
theorem dX2_minor_9 : decode cX2_minor 9 = .ok (.ifCond .eq 21, 3) := by decide +kernel
theorem dX2_minor_12 : decode cX2_minor 12 = .ok (.iload_n 2, 1) := by decide +kernel
theorem dX2_minor_13 : decode cX2_minor 13 = .ok (.iconst 0, 1) := by decide +kernel
theorem dX2_minor_14 : decode cX2_minor 14 = .ok (.iconst 1, 1) := by decide +kernel
theorem dX2_minor_15 : decode cX2_minor 15 = .ok (.invokestatic 29, 3) := by decide +kernel
theorem dX2_minor_18 : decode cX2_minor 18 = .ok (.ifCond .eq 12, 3) := by decide +kernel
theorem dX2_minor_21 : decode cX2_minor 21 = .ok (.aload_n 0, 1) := by decide +kernel
theorem dX2_minor_22 : decode cX2_minor 22 = .ok (.iload_n 1, 1) := by decide +kernel
theorem dX2_minor_23 : decode cX2_minor 23 = .ok (.iload_n 2, 1) := by decide +kernel
theorem dX2_minor_24 : decode cX2_minor 24 = .ok (.invokevirtual 112, 3) := by decide +kernel
theorem dX2_minor_27 : decode cX2_minor 27 = .ok (.goto 8, 3) := by decide +kernel
theorem dX2_minor_30 : decode cX2_minor 30 = .ok (.aload_n 0, 1) := by decide +kernel
theorem dX2_minor_31 : decode cX2_minor 31 = .ok (.iconst 1, 1) := by decide +kernel
theorem dX2_minor_32 : decode cX2_minor 32 = .ok (.invokevirtual 78, 3) := by decide +kernel
theorem dX2_minor_35 : decode cX2_minor 35 = .ok (.ireturn, 1) := by decide +kernel
set_option maxRecDepth 20000 in
theorem ggX2_noteTold_X2_keyOf : GoodIn wsX2_noteTold wsX2_keyOf := goodIn_r _ [7] (by decide +kernel) (by decide +kernel)
set_option maxRecDepth 20000 in
theorem gX2_noteTold_X2_keyOf : GoodIn wsX2_noteTold (va_wsS RX2 55 yX2_keyOf wsX2_keyOf) := goodIn_app (goodIn_of _ (by decide +kernel)) ggX2_noteTold_X2_keyOf
set_option maxRecDepth 20000 in
theorem ggX2_noteTold_X2_narrow : GoodIn wsX2_noteTold wsX2_narrow := goodIn_r _ [11, 12, 13, 14, 6, 15, 1, 16, 17, 18, 19, 20, 21, 26, 27, 28, 29, 30, 31, 32] (by decide +kernel) (by decide +kernel)
set_option maxRecDepth 20000 in
theorem gX2_noteTold_X2_narrow : GoodIn wsX2_noteTold (wsV RX2 49 RX2 yX2_narrow wsX2_narrow) := goodIn_app (goodIn_of _ (by decide +kernel)) ggX2_noteTold_X2_narrow
set_option maxRecDepth 20000 in
theorem ggX2_noteTold_J9_floorMod_7cf53 : GoodIn wsX2_noteTold wsJ9_floorMod_7cf53 := goodIn_r _ [25] (by decide +kernel) (by decide +kernel)
set_option maxRecDepth 20000 in
theorem gX2_noteTold_J9_floorMod_7cf53 : GoodIn wsX2_noteTold (va_wsS RX2 115 yJ9_floorMod_7cf53 wsJ9_floorMod_7cf53) := goodIn_app (goodIn_of _ (by decide +kernel)) ggX2_noteTold_J9_floorMod_7cf53
theorem dX2_noteTold_0 : decode cX2_noteTold 0 = .ok (.iload_n 2, 1) := by decide +kernel
theorem dX2_noteTold_1 : decode cX2_noteTold 1 = .ok (.tableswitch 59 0 3 #[31, 38, 45, 50], 31) := by decide +kernel
theorem dX2_noteTold_32 : decode cX2_noteTold 32 = .ok (.aload_n 0, 1) := by decide +kernel
theorem dX2_noteTold_33 : decode cX2_noteTold 33 = .ok (.getfield 23, 3) := by decide +kernel
theorem dX2_noteTold_36 : decode cX2_noteTold 36 = .ok (.iload_n 1, 1) := by decide +kernel
theorem dX2_noteTold_37 : decode cX2_noteTold 37 = .ok (.iaload, 1) := by decide +kernel
theorem dX2_noteTold_38 : decode cX2_noteTold 38 = .ok (.ireturn, 1) := by decide +kernel
theorem dX2_noteTold_39 : decode cX2_noteTold 39 = .ok (.aload_n 0, 1) := by decide +kernel
theorem dX2_noteTold_40 : decode cX2_noteTold 40 = .ok (.getfield 17, 3) := by decide +kernel
theorem dX2_noteTold_43 : decode cX2_noteTold 43 = .ok (.iload_n 1, 1) := by decide +kernel
theorem dX2_noteTold_44 : decode cX2_noteTold 44 = .ok (.iaload, 1) := by decide +kernel
theorem dX2_noteTold_45 : decode cX2_noteTold 45 = .ok (.ireturn, 1) := by decide +kernel
theorem dX2_noteTold_46 : decode cX2_noteTold 46 = .ok (.iload_n 1, 1) := by decide +kernel
theorem dX2_noteTold_47 : decode cX2_noteTold 47 = .ok (.invokestatic 55, 3) := by decide +kernel
theorem dX2_noteTold_50 : decode cX2_noteTold 50 = .ok (.ireturn, 1) := by decide +kernel
theorem dX2_noteTold_51 : decode cX2_noteTold 51 = .ok (.getstatic 52, 3) := by decide +kernel
theorem dX2_noteTold_54 : decode cX2_noteTold 54 = .ok (.iload_n 1, 1) := by decide +kernel
theorem dX2_noteTold_55 : decode cX2_noteTold 55 = .ok (.invokestatic 55, 3) := by decide +kernel
theorem dX2_noteTold_58 : decode cX2_noteTold 58 = .ok (.iaload, 1) := by decide +kernel
theorem dX2_noteTold_59 : decode cX2_noteTold 59 = .ok (.ireturn, 1) := by decide +kernel
theorem dX2_noteTold_60 : decode cX2_noteTold 60 = .ok (.sipush 702, 3) := by decide +kernel
theorem dX2_noteTold_63 : decode cX2_noteTold 63 = .ok (.iload_n 1, 1) := by decide +kernel
theorem dX2_noteTold_64 : decode cX2_noteTold 64 = .ok (.imul, 1) := by decide +kernel
theorem dX2_noteTold_65 : decode cX2_noteTold 65 = .ok (.aload_n 0, 1) := by decide +kernel
theorem dX2_noteTold_66 : decode cX2_noteTold 66 = .ok (.iconst 0, 1) := by decide +kernel
theorem dX2_noteTold_67 : decode cX2_noteTold 67 = .ok (.iload_n 1, 1) := by decide +kernel
theorem dX2_noteTold_68 : decode cX2_noteTold 68 = .ok (.invokevirtual 49, 3) := by decide +kernel
theorem dX2_noteTold_71 : decode cX2_noteTold 71 = .ok (.isub, 1) := by decide +kernel
theorem dX2_noteTold_72 : decode cX2_noteTold 72 = .ok (.sipush 1200, 3) := by decide +kernel
theorem dX2_noteTold_75 : decode cX2_noteTold 75 = .ok (.invokestatic 115, 3) := by decide +kernel
theorem dX2_noteTold_78 : decode cX2_noteTold 78 = .ok (.ireturn, 1) := by decide +kernel
set_option maxRecDepth 20000 in
theorem ggX2_note_X2_isOne : GoodIn wsX2_note wsX2_isOne := goodIn_r _ [5, 6, 7, 4, 8] (by decide +kernel) (by decide +kernel)
set_option maxRecDepth 20000 in
theorem gX2_note_X2_isOne : GoodIn wsX2_note (va_wsS RX2 74 yX2_isOne wsX2_isOne) := goodIn_app (goodIn_of _ (by decide +kernel)) ggX2_note_X2_isOne
set_option maxRecDepth 20000 in
theorem ggX2_note_X2_isIn : GoodIn wsX2_note wsX2_isIn := goodIn_r _ [8] (by decide +kernel) (by decide +kernel)
set_option maxRecDepth 20000 in
theorem gX2_note_X2_isIn : GoodIn wsX2_note (va_wsS RX2 29 yX2_isIn wsX2_isIn) := goodIn_app (goodIn_of _ (by decide +kernel)) ggX2_note_X2_isIn
set_option maxRecDepth 20000 in
theorem ggX2_note_X2_noteTold : GoodIn wsX2_note wsX2_noteTold := goodIn_r _ [12, 13, 14, 15, 16, 17, 4, 18, 19, 20, 21, 22, 23, 24, 25, 26, 27, 28, 29, 30, 31, 32, 33, 34, 35, 36, 41, 42, 43, 44, 45, 46, 47] (by decide +kernel) (by decide +kernel)
set_option maxRecDepth 20000 in
theorem gX2_note_X2_noteTold : GoodIn wsX2_note (wsV RX2 118 RX2 yX2_noteTold wsX2_noteTold) := goodIn_app (goodIn_of _ (by decide +kernel)) ggX2_note_X2_noteTold
set_option maxRecDepth 20000 in
theorem ggX2_note_X2_no : GoodIn wsX2_note wsX2_no := goodIn_r _ [40, 1, 41, 42, 43, 44, 45, 46, 47] (by decide +kernel) (by decide +kernel)
set_option maxRecDepth 20000 in
theorem gX2_note_X2_no : GoodIn wsX2_note (wsV RX2 78 RX2 yX2_no wsX2_no) := goodIn_app (goodIn_of _ (by decide +kernel)) ggX2_note_X2_no
theorem dX2_note_0 : decode cX2_note 0 = .ok (.aload_n 0, 1) := by decide +kernel
theorem dX2_note_1 : decode cX2_note 1 = .ok (.iconst 0, 1) := by decide +kernel
theorem dX2_note_2 : decode cX2_note 2 = .ok (.putfield 26, 3) := by decide +kernel
theorem dX2_note_5 : decode cX2_note 5 = .ok (.iload_n 1, 1) := by decide +kernel
theorem dX2_note_6 : decode cX2_note 6 = .ok (.invokestatic 74, 3) := by decide +kernel
theorem dX2_note_9 : decode cX2_note 9 = .ok (.ifCond .eq 21, 3) := by decide +kernel
theorem dX2_note_12 : decode cX2_note 12 = .ok (.iload_n 2, 1) := by decide +kernel
theorem dX2_note_13 : decode cX2_note 13 = .ok (.iconst 0, 1) := by decide +kernel
theorem dX2_note_14 : decode cX2_note 14 = .ok (.iconst 4, 1) := by decide +kernel
theorem dX2_note_15 : decode cX2_note 15 = .ok (.invokestatic 29, 3) := by decide +kernel
theorem dX2_note_18 : decode cX2_note 18 = .ok (.ifCond .eq 12, 3) := by decide +kernel
theorem dX2_note_21 : decode cX2_note 21 = .ok (.aload_n 0, 1) := by decide +kernel
theorem dX2_note_22 : decode cX2_note 22 = .ok (.iload_n 1, 1) := by decide +kernel
theorem dX2_note_23 : decode cX2_note 23 = .ok (.iload_n 2, 1) := by decide +kernel
theorem dX2_note_24 : decode cX2_note 24 = .ok (.invokevirtual 118, 3) := by decide +kernel
theorem dX2_note_27 : decode cX2_note 27 = .ok (.goto 8, 3) := by decide +kernel
theorem dX2_note_30 : decode cX2_note 30 = .ok (.aload_n 0, 1) := by decide +kernel
theorem dX2_note_31 : decode cX2_note 31 = .ok (.iconst 1, 1) := by decide +kernel
theorem dX2_note_32 : decode cX2_note 32 = .ok (.invokevirtual 78, 3) := by decide +kernel
theorem dX2_note_35 : decode cX2_note 35 = .ok (.ireturn, 1) := by decide +kernel
set_option maxRecDepth 20000 in
theorem ggX2_keyTold_X2_sour : GoodIn wsX2_keyTold wsX2_sour := goodIn_r _ [6, 7, 8, 9, 10, 11, 12, 13, 5, 14, 15, 16, 17, 18, 19, 20, 21, 22, 23, 24, 25, 26, 27, 28, 29, 34, 35, 36, 37, 38, 39, 40] (by decide +kernel) (by decide +kernel)
set_option maxRecDepth 20000 in
theorem gX2_keyTold_X2_sour : GoodIn wsX2_keyTold (wsV RX2 68 RX2 yX2_sour wsX2_sour) := goodIn_app (goodIn_of _ (by decide +kernel)) ggX2_keyTold_X2_sour
set_option maxRecDepth 20000 in
theorem ggX2_keyTold_X2_place : GoodIn wsX2_keyTold wsX2_place := goodIn_r _ [33, 2, 3, 4, 5, 6, 7, 8, 9, 10, 11, 12, 13, 14, 15, 16, 17, 18, 19, 20, 21, 22, 23, 24, 25, 26, 27, 28, 29, 34, 35, 36, 37, 38, 39, 40] (by decide +kernel) (by decide +kernel)
set_option maxRecDepth 20000 in
theorem gX2_keyTold_X2_place : GoodIn wsX2_keyTold (wsV RX2 121 RX2 yX2_place wsX2_place) := goodIn_app (goodIn_of _ (by decide +kernel)) ggX2_keyTold_X2_place
theorem dX2_keyTold_0 : decode cX2_keyTold 0 = .ok (.iload_n 2, 1) := by decide +kernel
theorem dX2_keyTold_1 : decode cX2_keyTold 1 = .ok (.ifCond .ne 12, 3) := by decide +kernel
theorem dX2_keyTold_4 : decode cX2_keyTold 4 = .ok (.aload_n 0, 1) := by decide +kernel
theorem dX2_keyTold_5 : decode cX2_keyTold 5 = .ok (.getfield 20, 3) := by decide +kernel
theorem dX2_keyTold_8 : decode cX2_keyTold 8 = .ok (.iload_n 1, 1) := by decide +kernel
theorem dX2_keyTold_9 : decode cX2_keyTold 9 = .ok (.iaload, 1) := by decide +kernel
theorem dX2_keyTold_10 : decode cX2_keyTold 10 = .ok (.goto 41, 3) := by decide +kernel
theorem dX2_keyTold_13 : decode cX2_keyTold 13 = .ok (.iload_n 2, 1) := by decide +kernel
theorem dX2_keyTold_14 : decode cX2_keyTold 14 = .ok (.iconst 1, 1) := by decide +kernel
theorem dX2_keyTold_15 : decode cX2_keyTold 15 = .ok (.if_icmp .ne 11, 3) := by decide +kernel
theorem dX2_keyTold_18 : decode cX2_keyTold 18 = .ok (.aload_n 0, 1) := by decide +kernel
theorem dX2_keyTold_19 : decode cX2_keyTold 19 = .ok (.iload_n 1, 1) := by decide +kernel
theorem dX2_keyTold_20 : decode cX2_keyTold 20 = .ok (.invokevirtual 68, 3) := by decide +kernel
theorem dX2_keyTold_23 : decode cX2_keyTold 23 = .ok (.goto 28, 3) := by decide +kernel
theorem dX2_keyTold_26 : decode cX2_keyTold 26 = .ok (.iload_n 2, 1) := by decide +kernel
theorem dX2_keyTold_27 : decode cX2_keyTold 27 = .ok (.iconst 2, 1) := by decide +kernel
theorem dX2_keyTold_28 : decode cX2_keyTold 28 = .ok (.if_icmp .ne 18, 3) := by decide +kernel
theorem dX2_keyTold_31 : decode cX2_keyTold 31 = .ok (.aload_n 0, 1) := by decide +kernel
theorem dX2_keyTold_32 : decode cX2_keyTold 32 = .ok (.getfield 20, 3) := by decide +kernel
theorem dX2_keyTold_35 : decode cX2_keyTold 35 = .ok (.iload_n 1, 1) := by decide +kernel
theorem dX2_keyTold_36 : decode cX2_keyTold 36 = .ok (.iaload, 1) := by decide +kernel
theorem dX2_keyTold_37 : decode cX2_keyTold 37 = .ok (.aload_n 0, 1) := by decide +kernel
theorem dX2_keyTold_38 : decode cX2_keyTold 38 = .ok (.iload_n 1, 1) := by decide +kernel
theorem dX2_keyTold_39 : decode cX2_keyTold 39 = .ok (.invokevirtual 68, 3) := by decide +kernel
theorem dX2_keyTold_42 : decode cX2_keyTold 42 = .ok (.imul, 1) := by decide +kernel
theorem dX2_keyTold_43 : decode cX2_keyTold 43 = .ok (.goto 8, 3) := by decide +kernel
theorem dX2_keyTold_46 : decode cX2_keyTold 46 = .ok (.aload_n 0, 1) := by decide +kernel
theorem dX2_keyTold_47 : decode cX2_keyTold 47 = .ok (.iload_n 1, 1) := by decide +kernel
theorem dX2_keyTold_48 : decode cX2_keyTold 48 = .ok (.invokevirtual 121, 3) := by decide +kernel
theorem dX2_keyTold_51 : decode cX2_keyTold 51 = .ok (.ireturn, 1) := by decide +kernel
set_option maxRecDepth 20000 in
theorem ggX2_key_X2_isOne : GoodIn wsX2_key wsX2_isOne := goodIn_r _ [5, 6, 7, 4, 8] (by decide +kernel) (by decide +kernel)
set_option maxRecDepth 20000 in
theorem gX2_key_X2_isOne : GoodIn wsX2_key (va_wsS RX2 74 yX2_isOne wsX2_isOne) := goodIn_app (goodIn_of _ (by decide +kernel)) ggX2_key_X2_isOne
set_option maxRecDepth 20000 in
theorem ggX2_key_X2_isIn : GoodIn wsX2_key wsX2_isIn := goodIn_r _ [8] (by decide +kernel) (by decide +kernel)
set_option maxRecDepth 20000 in
theorem gX2_key_X2_isIn : GoodIn wsX2_key (va_wsS RX2 29 yX2_isIn wsX2_isIn) := goodIn_app (goodIn_of _ (by decide +kernel)) ggX2_key_X2_isIn
set_option maxRecDepth 20000 in
theorem ggX2_key_X2_keyTold : GoodIn wsX2_key wsX2_keyTold := goodIn_r _ [12, 13, 14, 15, 16, 4, 17, 18, 19, 20, 21, 22, 23, 24, 25, 26, 27, 28, 29, 30, 31, 32, 33, 34, 35, 36, 37, 38, 39, 40, 41, 42, 43, 44, 49, 50, 51, 52, 53, 54, 55] (by decide +kernel) (by decide +kernel)
set_option maxRecDepth 20000 in
theorem gX2_key_X2_keyTold : GoodIn wsX2_key (wsV RX2 124 RX2 yX2_keyTold wsX2_keyTold) := goodIn_app (goodIn_of _ (by decide +kernel)) ggX2_key_X2_keyTold
set_option maxRecDepth 20000 in
theorem ggX2_key_X2_no : GoodIn wsX2_key wsX2_no := goodIn_r _ [48, 1, 49, 50, 51, 52, 53, 54, 55] (by decide +kernel) (by decide +kernel)
set_option maxRecDepth 20000 in
theorem gX2_key_X2_no : GoodIn wsX2_key (wsV RX2 78 RX2 yX2_no wsX2_no) := goodIn_app (goodIn_of _ (by decide +kernel)) ggX2_key_X2_no
theorem dX2_key_0 : decode cX2_key 0 = .ok (.aload_n 0, 1) := by decide +kernel
theorem dX2_key_1 : decode cX2_key 1 = .ok (.iconst 0, 1) := by decide +kernel
theorem dX2_key_2 : decode cX2_key 2 = .ok (.putfield 26, 3) := by decide +kernel
theorem dX2_key_5 : decode cX2_key 5 = .ok (.iload_n 1, 1) := by decide +kernel
theorem dX2_key_6 : decode cX2_key 6 = .ok (.invokestatic 74, 3) := by decide +kernel
theorem dX2_key_9 : decode cX2_key 9 = .ok (.ifCond .eq 21, 3) := by decide +kernel
theorem dX2_key_12 : decode cX2_key 12 = .ok (.iload_n 2, 1) := by decide +kernel
theorem dX2_key_13 : decode cX2_key 13 = .ok (.iconst 0, 1) := by decide +kernel
theorem dX2_key_14 : decode cX2_key 14 = .ok (.iconst 3, 1) := by decide +kernel
theorem dX2_key_15 : decode cX2_key 15 = .ok (.invokestatic 29, 3) := by decide +kernel
theorem dX2_key_18 : decode cX2_key 18 = .ok (.ifCond .eq 12, 3) := by decide +kernel
theorem dX2_key_21 : decode cX2_key 21 = .ok (.aload_n 0, 1) := by decide +kernel
theorem dX2_key_22 : decode cX2_key 22 = .ok (.iload_n 1, 1) := by decide +kernel
theorem dX2_key_23 : decode cX2_key 23 = .ok (.iload_n 2, 1) := by decide +kernel
theorem dX2_key_24 : decode cX2_key 24 = .ok (.invokevirtual 124, 3) := by decide +kernel
theorem dX2_key_27 : decode cX2_key 27 = .ok (.goto 8, 3) := by decide +kernel
theorem dX2_key_30 : decode cX2_key 30 = .ok (.aload_n 0, 1) := by decide +kernel
theorem dX2_key_31 : decode cX2_key 31 = .ok (.iconst 1, 1) := by decide +kernel
theorem dX2_key_32 : decode cX2_key 32 = .ok (.invokevirtual 78, 3) := by decide +kernel
theorem dX2_key_35 : decode cX2_key 35 = .ok (.ireturn, 1) := by decide +kernel
set_option maxRecDepth 20000 in
theorem ggX2_counted_X2_costs : GoodIn wsX2_counted wsX2_costs := goodIn_r _ [15, 16, 17, 18, 19, 14, 20, 3, 4, 5, 6, 21, 22, 23, 24, 25, 26, 27, 28, 29, 30, 31, 32, 10, 33, 34, 35, 36, 2, 37, 53, 54, 55, 56, 57, 58, 59] (by decide +kernel) (by decide +kernel)
set_option maxRecDepth 20000 in
theorem gX2_counted_X2_costs : GoodIn wsX2_counted (wsV RX2 127 RX2 yX2_costs wsX2_costs) := goodIn_app (goodIn_of _ (by decide +kernel)) ggX2_counted_X2_costs
set_option maxRecDepth 20000 in
theorem ggX2_counted_X2_majorOff : GoodIn wsX2_counted wsX2_majorOff := goodIn_r _ [24, 25, 26, 27, 14, 28, 29, 30, 31, 32, 10, 33, 34, 35, 36, 2, 37, 53, 54, 55, 56, 57, 58, 59] (by decide +kernel) (by decide +kernel)
set_option maxRecDepth 20000 in
theorem gX2_counted_X2_majorOff : GoodIn wsX2_counted (wsV RX2 65 RX2 yX2_majorOff wsX2_majorOff) := goodIn_app (goodIn_of _ (by decide +kernel)) ggX2_counted_X2_majorOff
set_option maxRecDepth 20000 in
theorem ggX2_counted_X2_narrow : GoodIn wsX2_counted wsX2_narrow := goodIn_r _ [28, 29, 30, 31, 14, 32, 10, 33, 34, 35, 36, 2, 37, 53, 54, 55, 56, 57, 58, 59] (by decide +kernel) (by decide +kernel)
set_option maxRecDepth 20000 in
theorem gX2_counted_X2_narrow : GoodIn wsX2_counted (wsV RX2 49 RX2 yX2_narrow wsX2_narrow) := goodIn_app (goodIn_of _ (by decide +kernel)) ggX2_counted_X2_narrow
set_option maxRecDepth 20000 in
theorem ggX2_counted_X2_fastest : GoodIn wsX2_counted wsX2_fastest := goodIn_r _ [41, 2, 7, 8, 5, 9, 42, 43, 44, 14, 45, 25, 26, 27, 28, 29, 30, 31, 32, 10, 33, 34, 35, 36, 37, 46, 47, 48, 49, 3, 4, 6, 50, 51, 52, 53, 54, 55, 56, 57, 58, 59] (by decide +kernel) (by decide +kernel)
set_option maxRecDepth 20000 in
theorem gX2_counted_X2_fastest : GoodIn wsX2_counted (wsV RX2 131 RX2 yX2_fastest wsX2_fastest) := goodIn_app (goodIn_of _ (by decide +kernel)) ggX2_counted_X2_fastest
theorem dX2_counted_0 : decode cX2_counted 0 = .ok (.iconst 0, 1) := by decide +kernel
theorem dX2_counted_1 : decode cX2_counted 1 = .ok (.istore_n 2, 1) := by decide +kernel
theorem dX2_counted_2 : decode cX2_counted 2 = .ok (.iload_n 1, 1) := by decide +kernel
theorem dX2_counted_3 : decode cX2_counted 3 = .ok (.tableswitch 155 0 5 #[37, 42, 47, 52, 81, 114], 37) := by decide +kernel
theorem dX2_counted_40 : decode cX2_counted 40 = .ok (.aload_n 0, 1) := by decide +kernel
theorem dX2_counted_41 : decode cX2_counted 41 = .ok (.getfield 97, 3) := by decide +kernel
theorem dX2_counted_44 : decode cX2_counted 44 = .ok (.ireturn, 1) := by decide +kernel
theorem dX2_counted_45 : decode cX2_counted 45 = .ok (.aload_n 0, 1) := by decide +kernel
theorem dX2_counted_46 : decode cX2_counted 46 = .ok (.getfield 7, 3) := by decide +kernel
theorem dX2_counted_49 : decode cX2_counted 49 = .ok (.ireturn, 1) := by decide +kernel
theorem dX2_counted_50 : decode cX2_counted 50 = .ok (.aload_n 0, 1) := by decide +kernel
theorem dX2_counted_51 : decode cX2_counted 51 = .ok (.invokevirtual 127, 3) := by decide +kernel
theorem dX2_counted_54 : decode cX2_counted 54 = .ok (.ireturn, 1) := by decide +kernel
theorem dX2_counted_55 : decode cX2_counted 55 = .ok (.iconst 0, 1) := by decide +kernel
theorem dX2_counted_56 : decode cX2_counted 56 = .ok (.istore_n 3, 1) := by decide +kernel
theorem dX2_counted_57 : decode cX2_counted 57 = .ok (.iload_n 3, 1) := by decide +kernel
theorem dX2_counted_58 : decode cX2_counted 58 = .ok (.bipush 12, 2) := by decide +kernel
theorem dX2_counted_60 : decode cX2_counted 60 = .ok (.if_icmp .ge 22, 3) := by decide +kernel
theorem dX2_counted_63 : decode cX2_counted 63 = .ok (.iload_n 2, 1) := by decide +kernel
theorem dX2_counted_64 : decode cX2_counted 64 = .ok (.aload_n 0, 1) := by decide +kernel
theorem dX2_counted_65 : decode cX2_counted 65 = .ok (.iload_n 3, 1) := by decide +kernel
theorem dX2_counted_66 : decode cX2_counted 66 = .ok (.invokevirtual 65, 3) := by decide +kernel
theorem dX2_counted_69 : decode cX2_counted 69 = .ok (.invokestatic 58, 3) := by decide +kernel
theorem dX2_counted_72 : decode cX2_counted 72 = .ok (.invokestatic 39, 3) := by decide +kernel
theorem dX2_counted_75 : decode cX2_counted 75 = .ok (.istore_n 2, 1) := by decide +kernel
theorem dX2_counted_76 : decode cX2_counted 76 = .ok (.iinc 3 1, 3) := by decide +kernel
theorem dX2_counted_79 : decode cX2_counted 79 = .ok (.goto (-22), 3) := by decide +kernel
theorem dX2_counted_82 : decode cX2_counted 82 = .ok (.iload_n 2, 1) := by decide +kernel
theorem dX2_counted_83 : decode cX2_counted 83 = .ok (.ireturn, 1) := by decide +kernel
theorem dX2_counted_84 : decode cX2_counted 84 = .ok (.iconst 0, 1) := by decide +kernel
theorem dX2_counted_85 : decode cX2_counted 85 = .ok (.istore_n 3, 1) := by decide +kernel
theorem dX2_counted_86 : decode cX2_counted 86 = .ok (.iload_n 3, 1) := by decide +kernel
theorem dX2_counted_87 : decode cX2_counted 87 = .ok (.bipush 12, 2) := by decide +kernel
theorem dX2_counted_89 : decode cX2_counted 89 = .ok (.if_icmp .ge 26, 3) := by decide +kernel
theorem dX2_counted_92 : decode cX2_counted 92 = .ok (.iload_n 2, 1) := by decide +kernel
theorem dX2_counted_93 : decode cX2_counted 93 = .ok (.aload_n 0, 1) := by decide +kernel
theorem dX2_counted_94 : decode cX2_counted 94 = .ok (.iload_n 3, 1) := by decide +kernel
theorem dX2_counted_95 : decode cX2_counted 95 = .ok (.iconst 1, 1) := by decide +kernel
theorem dX2_counted_96 : decode cX2_counted 96 = .ok (.invokevirtual 49, 3) := by decide +kernel
theorem dX2_counted_99 : decode cX2_counted 99 = .ok (.ifCond .ne 7, 3) := by decide +kernel
theorem dX2_counted_102 : decode cX2_counted 102 = .ok (.iconst 1, 1) := by decide +kernel
theorem dX2_counted_103 : decode cX2_counted 103 = .ok (.goto 4, 3) := by decide +kernel
theorem dX2_counted_106 : decode cX2_counted 106 = .ok (.iconst 0, 1) := by decide +kernel
theorem dX2_counted_107 : decode cX2_counted 107 = .ok (.iadd, 1) := by decide +kernel
theorem dX2_counted_108 : decode cX2_counted 108 = .ok (.istore_n 2, 1) := by decide +kernel
theorem dX2_counted_109 : decode cX2_counted 109 = .ok (.iinc 3 1, 3) := by decide +kernel
theorem dX2_counted_112 : decode cX2_counted 112 = .ok (.goto (-26), 3) := by decide +kernel
theorem dX2_counted_115 : decode cX2_counted 115 = .ok (.iload_n 2, 1) := by decide +kernel
theorem dX2_counted_116 : decode cX2_counted 116 = .ok (.ireturn, 1) := by decide +kernel
theorem dX2_counted_117 : decode cX2_counted 117 = .ok (.aload_n 0, 1) := by decide +kernel
theorem dX2_counted_118 : decode cX2_counted 118 = .ok (.getfield 23, 3) := by decide +kernel
theorem dX2_counted_121 : decode cX2_counted 121 = .ok (.astore_n 3, 1) := by decide +kernel
theorem dX2_counted_122 : decode cX2_counted 122 = .ok (.aload_n 3, 1) := by decide +kernel
theorem dX2_counted_123 : decode cX2_counted 123 = .ok (.arraylength, 1) := by decide +kernel
theorem dX2_counted_124 : decode cX2_counted 124 = .ok (.istore 4, 2) := by decide +kernel
theorem dX2_counted_126 : decode cX2_counted 126 = .ok (.iconst 0, 1) := by decide +kernel
theorem dX2_counted_127 : decode cX2_counted 127 = .ok (.istore 5, 2) := by decide +kernel
theorem dX2_counted_129 : decode cX2_counted 129 = .ok (.iload 5, 2) := by decide +kernel
theorem dX2_counted_131 : decode cX2_counted 131 = .ok (.iload 4, 2) := by decide +kernel
theorem dX2_counted_133 : decode cX2_counted 133 = .ok (.if_icmp .ge 23, 3) := by decide +kernel
theorem dX2_counted_136 : decode cX2_counted 136 = .ok (.aload_n 3, 1) := by decide +kernel
theorem dX2_counted_137 : decode cX2_counted 137 = .ok (.iload 5, 2) := by decide +kernel
theorem dX2_counted_139 : decode cX2_counted 139 = .ok (.iaload, 1) := by decide +kernel
theorem dX2_counted_140 : decode cX2_counted 140 = .ok (.istore 6, 2) := by decide +kernel
theorem dX2_counted_142 : decode cX2_counted 142 = .ok (.iload_n 2, 1) := by decide +kernel
theorem dX2_counted_143 : decode cX2_counted 143 = .ok (.iload 6, 2) := by decide +kernel
theorem dX2_counted_145 : decode cX2_counted 145 = .ok (.invokestatic 58, 3) := by decide +kernel
theorem dX2_counted_148 : decode cX2_counted 148 = .ok (.iadd, 1) := by decide +kernel
theorem dX2_counted_149 : decode cX2_counted 149 = .ok (.istore_n 2, 1) := by decide +kernel
theorem dX2_counted_150 : decode cX2_counted 150 = .ok (.iinc 5 1, 3) := by decide +kernel
theorem dX2_counted_153 : decode cX2_counted 153 = .ok (.goto (-24), 3) := by decide +kernel
theorem dX2_counted_156 : decode cX2_counted 156 = .ok (.iload_n 2, 1) := by decide +kernel
theorem dX2_counted_157 : decode cX2_counted 157 = .ok (.ireturn, 1) := by decide +kernel
theorem dX2_counted_158 : decode cX2_counted 158 = .ok (.aload_n 0, 1) := by decide +kernel
theorem dX2_counted_159 : decode cX2_counted 159 = .ok (.invokevirtual 131, 3) := by decide +kernel
theorem dX2_counted_162 : decode cX2_counted 162 = .ok (.ireturn, 1) := by decide +kernel
set_option maxRecDepth 20000 in
theorem ggX2_count_X2_isIn : GoodIn wsX2_count wsX2_isIn := goodIn_r _ [5] (by decide +kernel) (by decide +kernel)
set_option maxRecDepth 20000 in
theorem gX2_count_X2_isIn : GoodIn wsX2_count (va_wsS RX2 29 yX2_isIn wsX2_isIn) := goodIn_app (goodIn_of _ (by decide +kernel)) ggX2_count_X2_isIn
set_option maxRecDepth 20000 in
theorem ggX2_count_X2_counted : GoodIn wsX2_count wsX2_counted := goodIn_r _ [9, 10, 11, 12, 13, 14, 15, 16, 17, 18, 19, 20, 21, 22, 4, 23, 24, 25, 26, 27, 28, 29, 30, 31, 32, 33, 34, 35, 36, 37, 38, 39, 40, 41, 42, 43, 44, 45, 46, 47, 48, 49, 50, 51, 52, 53, 54, 55, 56, 57, 58, 59, 60, 65, 66, 67, 68, 69, 70, 71] (by decide +kernel) (by decide +kernel)
set_option maxRecDepth 20000 in
theorem gX2_count_X2_counted : GoodIn wsX2_count (wsV RX2 134 RX2 yX2_counted wsX2_counted) := goodIn_app (goodIn_of _ (by decide +kernel)) ggX2_count_X2_counted
set_option maxRecDepth 20000 in
theorem ggX2_count_X2_no : GoodIn wsX2_count wsX2_no := goodIn_r _ [64, 1, 65, 66, 67, 68, 69, 70, 71] (by decide +kernel) (by decide +kernel)
set_option maxRecDepth 20000 in
theorem gX2_count_X2_no : GoodIn wsX2_count (wsV RX2 78 RX2 yX2_no wsX2_no) := goodIn_app (goodIn_of _ (by decide +kernel)) ggX2_count_X2_no
