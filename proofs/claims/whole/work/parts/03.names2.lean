theorem dX2_manyDue_54 : decode cX2_manyDue 54 = .ok (.iadd, 1) := by decide +kernel
theorem dX2_manyDue_55 : decode cX2_manyDue 55 = .ok (.istore_n 3, 1) := by decide +kernel
theorem dX2_manyDue_56 : decode cX2_manyDue 56 = .ok (.iinc 4 1, 3) := by decide +kernel
theorem dX2_manyDue_59 : decode cX2_manyDue 59 = .ok (.goto (-40), 3) := by decide +kernel
theorem dX2_manyDue_62 : decode cX2_manyDue 62 = .ok (.iload_n 3, 1) := by decide +kernel
theorem dX2_manyDue_63 : decode cX2_manyDue 63 = .ok (.ireturn, 1) := by decide +kernel
set_option maxRecDepth 20000 in
theorem ggX2_dueIn__X2_isLamp : GoodIn wsX2_dueIn_ wsX2_isLamp := goodIn_r _ [7, 8, 9, 10, 6, 11, 28, 29, 30, 31, 32, 33, 34, 35, 36, 37] (by decide +kernel) (by decide +kernel)
set_option maxRecDepth 20000 in
theorem gX2_dueIn__X2_isLamp : GoodIn wsX2_dueIn_ (wsV RX2 45 RX2 yX2_isLamp wsX2_isLamp) := goodIn_app (goodIn_of _ (by decide +kernel)) ggX2_dueIn__X2_isLamp
set_option maxRecDepth 20000 in
theorem ggX2_dueIn__X2_no : GoodIn wsX2_dueIn_ wsX2_no := goodIn_r _ [15, 1, 28, 29, 30, 31, 32, 33, 34, 35, 36, 37] (by decide +kernel) (by decide +kernel)
set_option maxRecDepth 20000 in
theorem gX2_dueIn__X2_no : GoodIn wsX2_dueIn_ (wsV RX2 69 RX2 yX2_no wsX2_no) := goodIn_app (goodIn_of _ (by decide +kernel)) ggX2_dueIn__X2_no
set_option maxRecDepth 20000 in
theorem ggX2_dueIn__X2_isIn : GoodIn wsX2_dueIn_ wsX2_isIn := goodIn_r _ [11] (by decide +kernel) (by decide +kernel)
set_option maxRecDepth 20000 in
theorem gX2_dueIn__X2_isIn : GoodIn wsX2_dueIn_ (va_wsS RX2 41 yX2_isIn wsX2_isIn) := goodIn_app (goodIn_of _ (by decide +kernel)) ggX2_dueIn__X2_isIn
set_option maxRecDepth 20000 in
theorem ggX2_dueIn__X2_manyDue : GoodIn wsX2_dueIn_ wsX2_manyDue := goodIn_r _ [19, 20, 21, 22, 23, 24, 6, 25, 26, 27, 28, 29, 30, 31, 32, 33, 34, 35, 36, 37] (by decide +kernel) (by decide +kernel)
set_option maxRecDepth 20000 in
theorem gX2_dueIn__X2_manyDue : GoodIn wsX2_dueIn_ (wsV RX2 133 RX2 yX2_manyDue wsX2_manyDue) := goodIn_app (goodIn_of _ (by decide +kernel)) ggX2_dueIn__X2_manyDue
theorem dX2_dueIn__0 : decode cX2_dueIn_ 0 = .ok (.aload_n 0, 1) := by decide +kernel
theorem dX2_dueIn__1 : decode cX2_dueIn_ 1 = .ok (.iconst 0, 1) := by decide +kernel
theorem dX2_dueIn__2 : decode cX2_dueIn_ 2 = .ok (.putfield 35, 3) := by decide +kernel
theorem dX2_dueIn__5 : decode cX2_dueIn_ 5 = .ok (.aload_n 0, 1) := by decide +kernel
theorem dX2_dueIn__6 : decode cX2_dueIn_ 6 = .ok (.iload_n 1, 1) := by decide +kernel
theorem dX2_dueIn__7 : decode cX2_dueIn_ 7 = .ok (.invokevirtual 45, 3) := by decide +kernel
theorem dX2_dueIn__10 : decode cX2_dueIn_ 10 = .ok (.ifCond .ne 9, 3) := by decide +kernel
theorem dX2_dueIn__13 : decode cX2_dueIn_ 13 = .ok (.aload_n 0, 1) := by decide +kernel
theorem dX2_dueIn__14 : decode cX2_dueIn_ 14 = .ok (.iconst 1, 1) := by decide +kernel
theorem dX2_dueIn__15 : decode cX2_dueIn_ 15 = .ok (.invokevirtual 69, 3) := by decide +kernel
theorem dX2_dueIn__18 : decode cX2_dueIn_ 18 = .ok (.ireturn, 1) := by decide +kernel
theorem dX2_dueIn__19 : decode cX2_dueIn_ 19 = .ok (.iload_n 2, 1) := by decide +kernel
theorem dX2_dueIn__20 : decode cX2_dueIn_ 20 = .ok (.iconst 1, 1) := by decide +kernel
theorem dX2_dueIn__21 : decode cX2_dueIn_ 21 = .ok (.ldc 132, 2) := by decide +kernel
theorem dX2_dueIn__23 : decode cX2_dueIn_ 23 = .ok (.invokestatic 41, 3) := by decide +kernel
theorem dX2_dueIn__26 : decode cX2_dueIn_ 26 = .ok (.ifCond .eq 12, 3) := by decide +kernel
theorem dX2_dueIn__29 : decode cX2_dueIn_ 29 = .ok (.aload_n 0, 1) := by decide +kernel
theorem dX2_dueIn__30 : decode cX2_dueIn_ 30 = .ok (.iload_n 1, 1) := by decide +kernel
theorem dX2_dueIn__31 : decode cX2_dueIn_ 31 = .ok (.iload_n 2, 1) := by decide +kernel
theorem dX2_dueIn__32 : decode cX2_dueIn_ 32 = .ok (.invokevirtual 133, 3) := by decide +kernel
theorem dX2_dueIn__35 : decode cX2_dueIn_ 35 = .ok (.goto 8, 3) := by decide +kernel
theorem dX2_dueIn__38 : decode cX2_dueIn_ 38 = .ok (.aload_n 0, 1) := by decide +kernel
theorem dX2_dueIn__39 : decode cX2_dueIn_ 39 = .ok (.iconst 2, 1) := by decide +kernel
theorem dX2_dueIn__40 : decode cX2_dueIn_ 40 = .ok (.invokevirtual 69, 3) := by decide +kernel
theorem dX2_dueIn__43 : decode cX2_dueIn_ 43 = .ok (.ireturn, 1) := by decide +kernel
set_option maxRecDepth 20000 in
theorem ggX2_most_X2_keep : GoodIn wsX2_most wsX2_keep := goodIn_r _ [11, 6, 12, 13, 14, 15, 16, 42, 43, 44, 45, 46, 47, 48, 49, 50, 51] (by decide +kernel) (by decide +kernel)
set_option maxRecDepth 20000 in
theorem gX2_most_X2_keep : GoodIn wsX2_most (wsV RX2 136 RX2 yX2_keep wsX2_keep) := goodIn_app (goodIn_of _ (by decide +kernel)) ggX2_most_X2_keep
set_option maxRecDepth 20000 in
theorem ggX2_most_X2_shining : GoodIn wsX2_most wsX2_shining := goodIn_r _ [20, 21, 22, 1, 23, 24, 25, 10, 26, 27, 28, 29, 30, 31, 6, 32, 33, 42, 43, 44, 45, 46, 47, 48, 49, 50, 51] (by decide +kernel) (by decide +kernel)
set_option maxRecDepth 20000 in
theorem gX2_most_X2_shining : GoodIn wsX2_most (wsV RX2 56 RX2 yX2_shining wsX2_shining) := goodIn_app (goodIn_of _ (by decide +kernel)) ggX2_most_X2_shining
set_option maxRecDepth 20000 in
theorem ggX2_most_X2_powerOf : GoodIn wsX2_most wsX2_powerOf := goodIn_r _ [37, 21, 22, 42, 43, 44, 45, 46, 47, 48, 49, 50, 51] (by decide +kernel) (by decide +kernel)
set_option maxRecDepth 20000 in
theorem gX2_most_X2_powerOf : GoodIn wsX2_most (wsV RX2 86 RX2 yX2_powerOf wsX2_powerOf) := goodIn_app (goodIn_of _ (by decide +kernel)) ggX2_most_X2_powerOf
set_option maxRecDepth 20000 in
theorem ggX2_most_X2_bringBack : GoodIn wsX2_most wsX2_bringBack := goodIn_r _ [41, 12, 6, 13, 14, 15, 16, 42, 43, 44, 45, 46, 47, 48, 49, 50, 51] (by decide +kernel) (by decide +kernel)
set_option maxRecDepth 20000 in
theorem gX2_most_X2_bringBack : GoodIn wsX2_most (wsV RX2 139 RX2 yX2_bringBack wsX2_bringBack) := goodIn_app (goodIn_of _ (by decide +kernel)) ggX2_most_X2_bringBack
theorem dX2_most_0 : decode cX2_most 0 = .ok (.aload_n 0, 1) := by decide +kernel
theorem dX2_most_1 : decode cX2_most 1 = .ok (.invokevirtual 136, 3) := by decide +kernel
theorem dX2_most_4 : decode cX2_most 4 = .ok (.aload_n 0, 1) := by decide +kernel
theorem dX2_most_5 : decode cX2_most 5 = .ok (.getfield 9, 3) := by decide +kernel
theorem dX2_most_8 : decode cX2_most 8 = .ok (.istore_n 3, 1) := by decide +kernel
theorem dX2_most_9 : decode cX2_most 9 = .ok (.iload_n 2, 1) := by decide +kernel
theorem dX2_most_10 : decode cX2_most 10 = .ok (.ifCond .eq 9, 3) := by decide +kernel
theorem dX2_most_13 : decode cX2_most 13 = .ok (.aload_n 0, 1) := by decide +kernel
theorem dX2_most_14 : decode cX2_most 14 = .ok (.bipush 99, 2) := by decide +kernel
theorem dX2_most_16 : decode cX2_most 16 = .ok (.putfield 9, 3) := by decide +kernel
theorem dX2_most_19 : decode cX2_most 19 = .ok (.iconst 0, 1) := by decide +kernel
theorem dX2_most_20 : decode cX2_most 20 = .ok (.istore 4, 2) := by decide +kernel
theorem dX2_most_22 : decode cX2_most 22 = .ok (.iconst 0, 1) := by decide +kernel
theorem dX2_most_23 : decode cX2_most 23 = .ok (.istore 5, 2) := by decide +kernel
theorem dX2_most_25 : decode cX2_most 25 = .ok (.iload 5, 2) := by decide +kernel
theorem dX2_most_27 : decode cX2_most 27 = .ok (.iload_n 1, 1) := by decide +kernel
theorem dX2_most_28 : decode cX2_most 28 = .ok (.if_icmp .ge 34, 3) := by decide +kernel
theorem dX2_most_31 : decode cX2_most 31 = .ok (.iload 4, 2) := by decide +kernel
theorem dX2_most_33 : decode cX2_most 33 = .ok (.aload_n 0, 1) := by decide +kernel
theorem dX2_most_34 : decode cX2_most 34 = .ok (.aload_n 0, 1) := by decide +kernel
theorem dX2_most_35 : decode cX2_most 35 = .ok (.invokevirtual 56, 3) := by decide +kernel
theorem dX2_most_38 : decode cX2_most 38 = .ok (.invokevirtual 86, 3) := by decide +kernel
theorem dX2_most_41 : decode cX2_most 41 = .ok (.invokestatic 99, 3) := by decide +kernel
theorem dX2_most_44 : decode cX2_most 44 = .ok (.istore 4, 2) := by decide +kernel
theorem dX2_most_46 : decode cX2_most 46 = .ok (.aload_n 0, 1) := by decide +kernel
theorem dX2_most_47 : decode cX2_most 47 = .ok (.getfield 29, 3) := by decide +kernel
theorem dX2_most_50 : decode cX2_most 50 = .ok (.iconst 0, 1) := by decide +kernel
theorem dX2_most_51 : decode cX2_most 51 = .ok (.dup2, 1) := by decide +kernel
theorem dX2_most_52 : decode cX2_most 52 = .ok (.iaload, 1) := by decide +kernel
theorem dX2_most_53 : decode cX2_most 53 = .ok (.iconst 1, 1) := by decide +kernel
theorem dX2_most_54 : decode cX2_most 54 = .ok (.iadd, 1) := by decide +kernel
theorem dX2_most_55 : decode cX2_most 55 = .ok (.iastore, 1) := by decide +kernel
theorem dX2_most_56 : decode cX2_most 56 = .ok (.iinc 5 1, 3) := by decide +kernel
theorem dX2_most_59 : decode cX2_most 59 = .ok (.goto (-34), 3) := by decide +kernel
theorem dX2_most_62 : decode cX2_most 62 = .ok (.aload_n 0, 1) := by decide +kernel
theorem dX2_most_63 : decode cX2_most 63 = .ok (.iload_n 3, 1) := by decide +kernel
theorem dX2_most_64 : decode cX2_most 64 = .ok (.putfield 9, 3) := by decide +kernel
theorem dX2_most_67 : decode cX2_most 67 = .ok (.aload_n 0, 1) := by decide +kernel
theorem dX2_most_68 : decode cX2_most 68 = .ok (.invokevirtual 139, 3) := by decide +kernel
theorem dX2_most_71 : decode cX2_most 71 = .ok (.iload 4, 2) := by decide +kernel
theorem dX2_most_73 : decode cX2_most 73 = .ok (.ireturn, 1) := by decide +kernel
set_option maxRecDepth 20000 in
theorem ggX2_brightest_X2_isIn : GoodIn wsX2_brightest wsX2_isIn := goodIn_r _ [5] (by decide +kernel) (by decide +kernel)
set_option maxRecDepth 20000 in
theorem gX2_brightest_X2_isIn : GoodIn wsX2_brightest (va_wsS RX2 41 yX2_isIn wsX2_isIn) := goodIn_app (goodIn_of _ (by decide +kernel)) ggX2_brightest_X2_isIn
set_option maxRecDepth 20000 in
theorem ggX2_brightest_X2_most : GoodIn wsX2_brightest wsX2_most := goodIn_r _ [9, 10, 11, 12, 13, 14, 15, 16, 17, 18, 4, 19, 20, 21, 22, 23, 24, 25, 26, 27, 28, 29, 30, 31, 32, 33, 34, 35, 36, 37, 38, 39, 40, 41, 42, 43, 44, 45, 46, 47, 48, 49, 54, 55, 56, 57, 58, 59, 60, 61, 62, 63] (by decide +kernel) (by decide +kernel)
set_option maxRecDepth 20000 in
theorem gX2_brightest_X2_most : GoodIn wsX2_brightest (wsV RX2 142 RX2 yX2_most wsX2_most) := goodIn_app (goodIn_of _ (by decide +kernel)) ggX2_brightest_X2_most
set_option maxRecDepth 20000 in
theorem ggX2_brightest_X2_no : GoodIn wsX2_brightest wsX2_no := goodIn_r _ [53, 1, 54, 55, 56, 57, 58, 59, 60, 61, 62, 63] (by decide +kernel) (by decide +kernel)
set_option maxRecDepth 20000 in
theorem gX2_brightest_X2_no : GoodIn wsX2_brightest (wsV RX2 69 RX2 yX2_no wsX2_no) := goodIn_app (goodIn_of _ (by decide +kernel)) ggX2_brightest_X2_no
theorem dX2_brightest_0 : decode cX2_brightest 0 = .ok (.aload_n 0, 1) := by decide +kernel
theorem dX2_brightest_1 : decode cX2_brightest 1 = .ok (.iconst 0, 1) := by decide +kernel
theorem dX2_brightest_2 : decode cX2_brightest 2 = .ok (.putfield 35, 3) := by decide +kernel
theorem dX2_brightest_5 : decode cX2_brightest 5 = .ok (.iload_n 1, 1) := by decide +kernel
theorem dX2_brightest_6 : decode cX2_brightest 6 = .ok (.iconst 1, 1) := by decide +kernel
theorem dX2_brightest_7 : decode cX2_brightest 7 = .ok (.sipush 200, 3) := by decide +kernel
theorem dX2_brightest_10 : decode cX2_brightest 10 = .ok (.invokestatic 41, 3) := by decide +kernel
theorem dX2_brightest_13 : decode cX2_brightest 13 = .ok (.ifCond .eq 12, 3) := by decide +kernel
theorem dX2_brightest_16 : decode cX2_brightest 16 = .ok (.aload_n 0, 1) := by decide +kernel
theorem dX2_brightest_17 : decode cX2_brightest 17 = .ok (.iload_n 1, 1) := by decide +kernel
theorem dX2_brightest_18 : decode cX2_brightest 18 = .ok (.iconst 0, 1) := by decide +kernel
theorem dX2_brightest_19 : decode cX2_brightest 19 = .ok (.invokevirtual 142, 3) := by decide +kernel
theorem dX2_brightest_22 : decode cX2_brightest 22 = .ok (.goto 8, 3) := by decide +kernel
theorem dX2_brightest_25 : decode cX2_brightest 25 = .ok (.aload_n 0, 1) := by decide +kernel
theorem dX2_brightest_26 : decode cX2_brightest 26 = .ok (.iconst 1, 1) := by decide +kernel
theorem dX2_brightest_27 : decode cX2_brightest 27 = .ok (.invokevirtual 69, 3) := by decide +kernel
theorem dX2_brightest_30 : decode cX2_brightest 30 = .ok (.ireturn, 1) := by decide +kernel
set_option maxRecDepth 20000 in
theorem ggX2_unfairBehind_X2_keep : GoodIn wsX2_unfairBehind wsX2_keep := goodIn_r _ [5, 6, 7, 8, 9, 10, 11, 54, 55, 56, 57, 58, 59, 60, 61, 62, 63] (by decide +kernel) (by decide +kernel)
set_option maxRecDepth 20000 in
theorem gX2_unfairBehind_X2_keep : GoodIn wsX2_unfairBehind (wsV RX2 136 RX2 yX2_keep wsX2_keep) := goodIn_app (goodIn_of _ (by decide +kernel)) ggX2_unfairBehind_X2_keep
set_option maxRecDepth 20000 in
theorem ggX2_unfairBehind_X2_beatOn : GoodIn wsX2_unfairBehind wsX2_beatOn := goodIn_r _ [15, 16, 6, 17, 18, 19, 4, 20, 21, 22, 23, 24, 25, 26, 27, 28, 29, 30, 31, 32, 33, 54, 55, 56, 57, 58, 59, 60, 61, 62, 63] (by decide +kernel) (by decide +kernel)
set_option maxRecDepth 20000 in
theorem gX2_unfairBehind_X2_beatOn : GoodIn wsX2_unfairBehind (wsV RX2 80 RX2 yX2_beatOn wsX2_beatOn) := goodIn_app (goodIn_of _ (by decide +kernel)) ggX2_unfairBehind_X2_beatOn
set_option maxRecDepth 20000 in
theorem ggX2_unfairBehind_X2_unfair : GoodIn wsX2_unfairBehind wsX2_unfair := goodIn_r _ [37, 16, 38, 39, 40, 41, 42, 43, 44, 45, 46, 47, 48, 4, 49, 6, 54, 55, 56, 57, 58, 59, 60, 61, 62, 63] (by decide +kernel) (by decide +kernel)
set_option maxRecDepth 20000 in
theorem gX2_unfairBehind_X2_unfair : GoodIn wsX2_unfairBehind (wsV RX2 107 RX2 yX2_unfair wsX2_unfair) := goodIn_app (goodIn_of _ (by decide +kernel)) ggX2_unfairBehind_X2_unfair
set_option maxRecDepth 20000 in
theorem ggX2_unfairBehind_X2_bringBack : GoodIn wsX2_unfairBehind wsX2_bringBack := goodIn_r _ [53, 7, 6, 8, 9, 10, 11, 54, 55, 56, 57, 58, 59, 60, 61, 62, 63] (by decide +kernel) (by decide +kernel)
set_option maxRecDepth 20000 in
theorem gX2_unfairBehind_X2_bringBack : GoodIn wsX2_unfairBehind (wsV RX2 139 RX2 yX2_bringBack wsX2_bringBack) := goodIn_app (goodIn_of _ (by decide +kernel)) ggX2_unfairBehind_X2_bringBack
theorem dX2_unfairBehind_0 : decode cX2_unfairBehind 0 = .ok (.aload_n 0, 1) := by decide +kernel
theorem dX2_unfairBehind_1 : decode cX2_unfairBehind 1 = .ok (.invokevirtual 136, 3) := by decide +kernel
theorem dX2_unfairBehind_4 : decode cX2_unfairBehind 4 = .ok (.iconst 0, 1) := by decide +kernel
theorem dX2_unfairBehind_5 : decode cX2_unfairBehind 5 = .ok (.istore_n 2, 1) := by decide +kernel
theorem dX2_unfairBehind_6 : decode cX2_unfairBehind 6 = .ok (.iload_n 2, 1) := by decide +kernel
theorem dX2_unfairBehind_7 : decode cX2_unfairBehind 7 = .ok (.iload_n 1, 1) := by decide +kernel
theorem dX2_unfairBehind_8 : decode cX2_unfairBehind 8 = .ok (.if_icmp .ge 14, 3) := by decide +kernel
theorem dX2_unfairBehind_11 : decode cX2_unfairBehind 11 = .ok (.aload_n 0, 1) := by decide +kernel
theorem dX2_unfairBehind_12 : decode cX2_unfairBehind 12 = .ok (.invokevirtual 80, 3) := by decide +kernel
theorem dX2_unfairBehind_15 : decode cX2_unfairBehind 15 = .ok (.pop, 1) := by decide +kernel
theorem dX2_unfairBehind_16 : decode cX2_unfairBehind 16 = .ok (.iinc 2 1, 3) := by decide +kernel
theorem dX2_unfairBehind_19 : decode cX2_unfairBehind 19 = .ok (.goto (-13), 3) := by decide +kernel
theorem dX2_unfairBehind_22 : decode cX2_unfairBehind 22 = .ok (.aload_n 0, 1) := by decide +kernel
theorem dX2_unfairBehind_23 : decode cX2_unfairBehind 23 = .ok (.invokevirtual 107, 3) := by decide +kernel
theorem dX2_unfairBehind_26 : decode cX2_unfairBehind 26 = .ok (.istore_n 2, 1) := by decide +kernel
theorem dX2_unfairBehind_27 : decode cX2_unfairBehind 27 = .ok (.aload_n 0, 1) := by decide +kernel
theorem dX2_unfairBehind_28 : decode cX2_unfairBehind 28 = .ok (.invokevirtual 139, 3) := by decide +kernel
theorem dX2_unfairBehind_31 : decode cX2_unfairBehind 31 = .ok (.iload_n 2, 1) := by decide +kernel
theorem dX2_unfairBehind_32 : decode cX2_unfairBehind 32 = .ok (.ireturn, 1) := by decide +kernel
set_option maxRecDepth 20000 in
theorem ggX2_unfairnessIn_X2_isIn : GoodIn wsX2_unfairnessIn wsX2_isIn := goodIn_r _ [5] (by decide +kernel) (by decide +kernel)
set_option maxRecDepth 20000 in
theorem gX2_unfairnessIn_X2_isIn : GoodIn wsX2_unfairnessIn (va_wsS RX2 41 yX2_isIn wsX2_isIn) := goodIn_app (goodIn_of _ (by decide +kernel)) ggX2_unfairnessIn_X2_isIn
set_option maxRecDepth 20000 in
theorem ggX2_unfairnessIn_X2_unfairBehind : GoodIn wsX2_unfairnessIn wsX2_unfairBehind := goodIn_r _ [9, 10, 11, 12, 4, 13, 14, 15, 16, 17, 18, 19, 20, 21, 22, 23, 24, 25, 26, 27, 28, 29, 30, 31, 32, 33, 34, 35, 36, 37, 38, 39, 40, 41, 42, 43, 44, 45, 46, 47, 48, 49, 50, 51, 52, 53, 54, 55, 56, 57, 58, 59, 60, 61, 66, 67, 68, 69, 70, 71, 72, 73, 74, 75] (by decide +kernel) (by decide +kernel)
set_option maxRecDepth 20000 in
theorem gX2_unfairnessIn_X2_unfairBehind : GoodIn wsX2_unfairnessIn (wsV RX2 146 RX2 yX2_unfairBehind wsX2_unfairBehind) := goodIn_app (goodIn_of _ (by decide +kernel)) ggX2_unfairnessIn_X2_unfairBehind
set_option maxRecDepth 20000 in
theorem ggX2_unfairnessIn_X2_no : GoodIn wsX2_unfairnessIn wsX2_no := goodIn_r _ [65, 1, 66, 67, 68, 69, 70, 71, 72, 73, 74, 75] (by decide +kernel) (by decide +kernel)
set_option maxRecDepth 20000 in
theorem gX2_unfairnessIn_X2_no : GoodIn wsX2_unfairnessIn (wsV RX2 69 RX2 yX2_no wsX2_no) := goodIn_app (goodIn_of _ (by decide +kernel)) ggX2_unfairnessIn_X2_no
theorem dX2_unfairnessIn_0 : decode cX2_unfairnessIn 0 = .ok (.aload_n 0, 1) := by decide +kernel
theorem dX2_unfairnessIn_1 : decode cX2_unfairnessIn 1 = .ok (.iconst 0, 1) := by decide +kernel
theorem dX2_unfairnessIn_2 : decode cX2_unfairnessIn 2 = .ok (.putfield 35, 3) := by decide +kernel
theorem dX2_unfairnessIn_5 : decode cX2_unfairnessIn 5 = .ok (.iload_n 1, 1) := by decide +kernel
theorem dX2_unfairnessIn_6 : decode cX2_unfairnessIn 6 = .ok (.iconst 1, 1) := by decide +kernel
theorem dX2_unfairnessIn_7 : decode cX2_unfairnessIn 7 = .ok (.sipush 200, 3) := by decide +kernel
theorem dX2_unfairnessIn_10 : decode cX2_unfairnessIn 10 = .ok (.invokestatic 41, 3) := by decide +kernel
theorem dX2_unfairnessIn_13 : decode cX2_unfairnessIn 13 = .ok (.ifCond .eq 11, 3) := by decide +kernel
theorem dX2_unfairnessIn_16 : decode cX2_unfairnessIn 16 = .ok (.aload_n 0, 1) := by decide +kernel
theorem dX2_unfairnessIn_17 : decode cX2_unfairnessIn 17 = .ok (.iload_n 1, 1) := by decide +kernel
theorem dX2_unfairnessIn_18 : decode cX2_unfairnessIn 18 = .ok (.invokevirtual 146, 3) := by decide +kernel
theorem dX2_unfairnessIn_21 : decode cX2_unfairnessIn 21 = .ok (.goto 8, 3) := by decide +kernel
theorem dX2_unfairnessIn_24 : decode cX2_unfairnessIn 24 = .ok (.aload_n 0, 1) := by decide +kernel
theorem dX2_unfairnessIn_25 : decode cX2_unfairnessIn 25 = .ok (.iconst 1, 1) := by decide +kernel
theorem dX2_unfairnessIn_26 : decode cX2_unfairnessIn 26 = .ok (.invokevirtual 69, 3) := by decide +kernel
theorem dX2_unfairnessIn_29 : decode cX2_unfairnessIn 29 = .ok (.ireturn, 1) := by decide +kernel
set_option maxRecDepth 20000 in
theorem ggX2_limitWanted_X2_isIn : GoodIn wsX2_limitWanted wsX2_isIn := goodIn_r _ [5] (by decide +kernel) (by decide +kernel)
set_option maxRecDepth 20000 in
theorem gX2_limitWanted_X2_isIn : GoodIn wsX2_limitWanted (va_wsS RX2 41 yX2_isIn wsX2_isIn) := goodIn_app (goodIn_of _ (by decide +kernel)) ggX2_limitWanted_X2_isIn
set_option maxRecDepth 20000 in
theorem ggX2_limitWanted_X2_most : GoodIn wsX2_limitWanted wsX2_most := goodIn_r _ [9, 10, 11, 12, 13, 14, 15, 16, 17, 18, 4, 19, 20, 21, 22, 23, 24, 25, 26, 27, 28, 29, 30, 31, 32, 33, 34, 35, 36, 37, 38, 39, 40, 41, 42, 43, 44, 45, 46, 47, 48, 49, 54, 55, 56, 57, 58, 59, 60, 61, 62, 63] (by decide +kernel) (by decide +kernel)
set_option maxRecDepth 20000 in
theorem gX2_limitWanted_X2_most : GoodIn wsX2_limitWanted (wsV RX2 142 RX2 yX2_most wsX2_most) := goodIn_app (goodIn_of _ (by decide +kernel)) ggX2_limitWanted_X2_most
set_option maxRecDepth 20000 in
theorem ggX2_limitWanted_X2_no : GoodIn wsX2_limitWanted wsX2_no := goodIn_r _ [53, 1, 54, 55, 56, 57, 58, 59, 60, 61, 62, 63] (by decide +kernel) (by decide +kernel)
set_option maxRecDepth 20000 in
theorem gX2_limitWanted_X2_no : GoodIn wsX2_limitWanted (wsV RX2 69 RX2 yX2_no wsX2_no) := goodIn_app (goodIn_of _ (by decide +kernel)) ggX2_limitWanted_X2_no
theorem dX2_limitWanted_0 : decode cX2_limitWanted 0 = .ok (.aload_n 0, 1) := by decide +kernel
theorem dX2_limitWanted_1 : decode cX2_limitWanted 1 = .ok (.iconst 0, 1) := by decide +kernel
theorem dX2_limitWanted_2 : decode cX2_limitWanted 2 = .ok (.putfield 35, 3) := by decide +kernel
theorem dX2_limitWanted_5 : decode cX2_limitWanted 5 = .ok (.iload_n 1, 1) := by decide +kernel
theorem dX2_limitWanted_6 : decode cX2_limitWanted 6 = .ok (.iconst 1, 1) := by decide +kernel
theorem dX2_limitWanted_7 : decode cX2_limitWanted 7 = .ok (.sipush 200, 3) := by decide +kernel
theorem dX2_limitWanted_10 : decode cX2_limitWanted 10 = .ok (.invokestatic 41, 3) := by decide +kernel
theorem dX2_limitWanted_13 : decode cX2_limitWanted 13 = .ok (.ifCond .eq 12, 3) := by decide +kernel
theorem dX2_limitWanted_16 : decode cX2_limitWanted 16 = .ok (.aload_n 0, 1) := by decide +kernel
theorem dX2_limitWanted_17 : decode cX2_limitWanted 17 = .ok (.iload_n 1, 1) := by decide +kernel
theorem dX2_limitWanted_18 : decode cX2_limitWanted 18 = .ok (.iconst 1, 1) := by decide +kernel
theorem dX2_limitWanted_19 : decode cX2_limitWanted 19 = .ok (.invokevirtual 142, 3) := by decide +kernel
theorem dX2_limitWanted_22 : decode cX2_limitWanted 22 = .ok (.goto 8, 3) := by decide +kernel
theorem dX2_limitWanted_25 : decode cX2_limitWanted 25 = .ok (.aload_n 0, 1) := by decide +kernel
theorem dX2_limitWanted_26 : decode cX2_limitWanted 26 = .ok (.iconst 1, 1) := by decide +kernel
theorem dX2_limitWanted_27 : decode cX2_limitWanted 27 = .ok (.invokevirtual 69, 3) := by decide +kernel
theorem dX2_limitWanted_30 : decode cX2_limitWanted 30 = .ok (.ireturn, 1) := by decide +kernel
theorem dX2_meanShone_0 : decode cX2_meanShone 0 = .ok (.aload_n 0, 1) := by decide +kernel
theorem dX2_meanShone_1 : decode cX2_meanShone 1 = .ok (.iconst 0, 1) := by decide +kernel
theorem dX2_meanShone_2 : decode cX2_meanShone 2 = .ok (.putfield 35, 3) := by decide +kernel
theorem dX2_meanShone_5 : decode cX2_meanShone 5 = .ok (.iconst 0, 1) := by decide +kernel
theorem dX2_meanShone_6 : decode cX2_meanShone 6 = .ok (.istore_n 1, 1) := by decide +kernel
theorem dX2_meanShone_7 : decode cX2_meanShone 7 = .ok (.iconst 0, 1) := by decide +kernel
theorem dX2_meanShone_8 : decode cX2_meanShone 8 = .ok (.istore_n 2, 1) := by decide +kernel
theorem dX2_meanShone_9 : decode cX2_meanShone 9 = .ok (.iload_n 2, 1) := by decide +kernel
theorem dX2_meanShone_10 : decode cX2_meanShone 10 = .ok (.aload_n 0, 1) := by decide +kernel
theorem dX2_meanShone_11 : decode cX2_meanShone 11 = .ok (.getfield 38, 3) := by decide +kernel
theorem dX2_meanShone_14 : decode cX2_meanShone 14 = .ok (.if_icmp .ge 20, 3) := by decide +kernel
theorem dX2_meanShone_17 : decode cX2_meanShone 17 = .ok (.iload_n 1, 1) := by decide +kernel
theorem dX2_meanShone_18 : decode cX2_meanShone 18 = .ok (.aload_n 0, 1) := by decide +kernel
theorem dX2_meanShone_19 : decode cX2_meanShone 19 = .ok (.getfield 29, 3) := by decide +kernel
theorem dX2_meanShone_22 : decode cX2_meanShone 22 = .ok (.iconst 1, 1) := by decide +kernel
theorem dX2_meanShone_23 : decode cX2_meanShone 23 = .ok (.iload_n 2, 1) := by decide +kernel
theorem dX2_meanShone_24 : decode cX2_meanShone 24 = .ok (.iadd, 1) := by decide +kernel
theorem dX2_meanShone_25 : decode cX2_meanShone 25 = .ok (.iaload, 1) := by decide +kernel
theorem dX2_meanShone_26 : decode cX2_meanShone 26 = .ok (.iadd, 1) := by decide +kernel
theorem dX2_meanShone_27 : decode cX2_meanShone 27 = .ok (.istore_n 1, 1) := by decide +kernel
theorem dX2_meanShone_28 : decode cX2_meanShone 28 = .ok (.iinc 2 1, 3) := by decide +kernel
theorem dX2_meanShone_31 : decode cX2_meanShone 31 = .ok (.goto (-22), 3) := by decide +kernel
theorem dX2_meanShone_34 : decode cX2_meanShone 34 = .ok (.aload_n 0, 1) := by decide +kernel
theorem dX2_meanShone_35 : decode cX2_meanShone 35 = .ok (.getfield 38, 3) := by decide +kernel
theorem dX2_meanShone_38 : decode cX2_meanShone 38 = .ok (.ifCond .ne 7, 3) := by decide +kernel
theorem dX2_meanShone_41 : decode cX2_meanShone 41 = .ok (.dconst 0, 1) := by decide +kernel
theorem dX2_meanShone_42 : decode cX2_meanShone 42 = .ok (.goto 11, 3) := by decide +kernel
theorem dX2_meanShone_45 : decode cX2_meanShone 45 = .ok (.iload_n 1, 1) := by decide +kernel
theorem dX2_meanShone_46 : decode cX2_meanShone 46 = .ok (.i2d, 1) := by decide +kernel
theorem dX2_meanShone_47 : decode cX2_meanShone 47 = .ok (.aload_n 0, 1) := by decide +kernel
theorem dX2_meanShone_48 : decode cX2_meanShone 48 = .ok (.getfield 38, 3) := by decide +kernel
theorem dX2_meanShone_51 : decode cX2_meanShone 51 = .ok (.i2d, 1) := by decide +kernel
theorem dX2_meanShone_52 : decode cX2_meanShone 52 = .ok (.ddiv, 1) := by decide +kernel
theorem dX2_meanShone_53 : decode cX2_meanShone 53 = .ok (.dreturn, 1) := by decide +kernel
set_option maxRecDepth 20000 in
theorem ggX2_digest_X2_shining : GoodIn wsX2_digest wsX2_shining := goodIn_r _ [14, 4, 15, 5, 16, 17, 18, 13, 19, 20, 21, 22, 23, 24, 3, 9, 25, 101, 102, 103, 104, 105, 106, 107, 108, 109, 110] (by decide +kernel) (by decide +kernel)
set_option maxRecDepth 20000 in
theorem gX2_digest_X2_shining : GoodIn wsX2_digest (wsV RX2 56 RX2 yX2_shining wsX2_shining) := goodIn_app (goodIn_of _ (by decide +kernel)) ggX2_digest_X2_shining
set_option maxRecDepth 20000 in
theorem ggX2_digest_X2_powerOf : GoodIn wsX2_digest wsX2_powerOf := goodIn_r _ [29, 4, 15, 101, 102, 103, 104, 105, 106, 107, 108, 109, 110] (by decide +kernel) (by decide +kernel)
set_option maxRecDepth 20000 in
theorem gX2_digest_X2_powerOf : GoodIn wsX2_digest (wsV RX2 86 RX2 yX2_powerOf wsX2_powerOf) := goodIn_app (goodIn_of _ (by decide +kernel)) ggX2_digest_X2_powerOf
set_option maxRecDepth 20000 in
theorem ggX2_digest_X2_unfair : GoodIn wsX2_digest wsX2_unfair := goodIn_r _ [33, 4, 8, 34, 35, 36, 37, 38, 39, 40, 41, 42, 43, 13, 44, 3, 101, 102, 103, 104, 105, 106, 107, 108, 109, 110] (by decide +kernel) (by decide +kernel)
set_option maxRecDepth 20000 in
theorem gX2_digest_X2_unfair : GoodIn wsX2_digest (wsV RX2 107 RX2 yX2_unfair wsX2_unfair) := goodIn_app (goodIn_of _ (by decide +kernel)) ggX2_digest_X2_unfair
set_option maxRecDepth 20000 in
theorem ggX2_digest_X2_whole : GoodIn wsX2_digest wsX2_whole := goodIn_r _ [48, 4, 25, 49, 50, 13, 51, 101, 102, 103, 104, 105, 106, 107, 108, 109, 110] (by decide +kernel) (by decide +kernel)
set_option maxRecDepth 20000 in
theorem gX2_digest_X2_whole : GoodIn wsX2_digest (wsV RX2 113 RX2 yX2_whole wsX2_whole) := goodIn_app (goodIn_of _ (by decide +kernel)) ggX2_digest_X2_whole
set_option maxRecDepth 20000 in
theorem ggX2_digest_X2_strangers : GoodIn wsX2_digest wsX2_strangers := goodIn_r _ [55, 4, 9, 56, 57, 58, 13, 59, 60, 61, 62, 63, 25, 49, 50, 51, 101, 102, 103, 104, 105, 106, 107, 108, 109, 110] (by decide +kernel) (by decide +kernel)
set_option maxRecDepth 20000 in
theorem gX2_digest_X2_strangers : GoodIn wsX2_digest (wsV RX2 126 RX2 yX2_strangers wsX2_strangers) := goodIn_app (goodIn_of _ (by decide +kernel)) ggX2_digest_X2_strangers
set_option maxRecDepth 20000 in
theorem ggX2_digest_X2_most : GoodIn wsX2_digest wsX2_most := goodIn_r _ [67, 5, 34, 35, 36, 37, 3, 68, 69, 70, 13, 71, 72, 73, 74, 75, 76, 10, 11, 12, 14, 4, 15, 16, 17, 18, 19, 20, 21, 22, 23, 24, 9, 25, 26, 27, 28, 29, 77, 78, 79, 80, 101, 102, 103, 104, 105, 106, 107, 108, 109, 110] (by decide +kernel) (by decide +kernel)
set_option maxRecDepth 20000 in
theorem gX2_digest_X2_most : GoodIn wsX2_digest (wsV RX2 142 RX2 yX2_most wsX2_most) := goodIn_app (goodIn_of _ (by decide +kernel)) ggX2_digest_X2_most
set_option maxRecDepth 20000 in
theorem ggX2_digest_X2_unfairBehind : GoodIn wsX2_digest wsX2_unfairBehind := goodIn_r _ [84, 68, 69, 70, 13, 71, 3, 72, 73, 74, 75, 76, 85, 86, 87, 88, 4, 10, 11, 12, 14, 15, 5, 16, 17, 18, 19, 20, 21, 22, 23, 24, 9, 25, 30, 31, 32, 33, 8, 34, 35, 36, 37, 38, 39, 40, 41, 42, 43, 44, 77, 78, 79, 80, 101, 102, 103, 104, 105, 106, 107, 108, 109, 110] (by decide +kernel) (by decide +kernel)
set_option maxRecDepth 20000 in
theorem gX2_digest_X2_unfairBehind : GoodIn wsX2_digest (wsV RX2 146 RX2 yX2_unfairBehind wsX2_unfairBehind) := goodIn_app (goodIn_of _ (by decide +kernel)) ggX2_digest_X2_unfairBehind
set_option maxRecDepth 20000 in
theorem ggX2_digest_X2_phaseIn : GoodIn wsX2_digest wsX2_phaseIn := goodIn_r _ [24, 3, 9, 25, 101, 102, 103, 104, 105, 106, 107, 108, 109, 110] (by decide +kernel) (by decide +kernel)
set_option maxRecDepth 20000 in
theorem gX2_digest_X2_phaseIn : GoodIn wsX2_digest (wsV RX2 49 RX2 yX2_phaseIn wsX2_phaseIn) := goodIn_app (goodIn_of _ (by decide +kernel)) ggX2_digest_X2_phaseIn
set_option maxRecDepth 20000 in
theorem ggX2_digest_X2_dueIn : GoodIn wsX2_digest wsX2_dueIn := goodIn_r _ [19, 20, 21, 22, 23, 13, 24, 3, 9, 25, 101, 102, 103, 104, 105, 106, 107, 108, 109, 110] (by decide +kernel) (by decide +kernel)
set_option maxRecDepth 20000 in
theorem gX2_digest_X2_dueIn : GoodIn wsX2_digest (wsV RX2 53 RX2 yX2_dueIn wsX2_dueIn) := goodIn_app (goodIn_of _ (by decide +kernel)) ggX2_digest_X2_dueIn
set_option maxRecDepth 20000 in
theorem ggX2_digest_X2_isShining : GoodIn wsX2_digest wsX2_isShining := goodIn_r _ [92, 10, 11, 12, 13, 14, 4, 15, 5, 16, 17, 18, 19, 20, 21, 22, 23, 24, 3, 9, 25, 101, 102, 103, 104, 105, 106, 107, 108, 109, 110] (by decide +kernel) (by decide +kernel)
set_option maxRecDepth 20000 in
theorem gX2_digest_X2_isShining : GoodIn wsX2_digest (wsV RX2 89 RX2 yX2_isShining wsX2_isShining) := goodIn_app (goodIn_of _ (by decide +kernel)) ggX2_digest_X2_isShining
set_option maxRecDepth 20000 in
theorem ggX2_digest_X2_met : GoodIn wsX2_digest wsX2_met := goodIn_r _ [59, 4, 60, 61, 62, 13, 63, 9, 25, 49, 50, 51, 101, 102, 103, 104, 105, 106, 107, 108, 109, 110] (by decide +kernel) (by decide +kernel)
set_option maxRecDepth 20000 in
theorem gX2_digest_X2_met : GoodIn wsX2_digest (wsV RX2 123 RX2 yX2_met wsX2_met) := goodIn_app (goodIn_of _ (by decide +kernel)) ggX2_digest_X2_met
set_option maxRecDepth 20000 in
theorem ggX2_digest_X2_shiftFor : GoodIn wsX2_digest wsX2_shiftFor := goodIn_r _ [96, 25, 56, 57, 58, 13, 59, 4, 60, 61, 62, 63, 9, 49, 50, 51, 101, 102, 103, 104, 105, 106, 107, 108, 109, 110] (by decide +kernel) (by decide +kernel)
set_option maxRecDepth 20000 in
theorem gX2_digest_X2_shiftFor : GoodIn wsX2_digest (wsV RX2 129 RX2 yX2_shiftFor wsX2_shiftFor) := goodIn_app (goodIn_of _ (by decide +kernel)) ggX2_digest_X2_shiftFor
set_option maxRecDepth 20000 in
theorem ggX2_digest_X2_until : GoodIn wsX2_digest wsX2_until := goodIn_r _ [100, 9, 25, 60, 61, 62, 13, 63, 49, 50, 51, 21, 22, 23, 24, 3, 101, 102, 103, 104, 105, 106, 107, 108, 109, 110] (by decide +kernel) (by decide +kernel)
set_option maxRecDepth 20000 in
theorem gX2_digest_X2_until : GoodIn wsX2_digest (wsV RX2 120 RX2 yX2_until wsX2_until) := goodIn_app (goodIn_of _ (by decide +kernel)) ggX2_digest_X2_until
set_option maxRecDepth 20000 in
theorem ggX2_digest_X2_seenOf : GoodIn wsX2_digest wsX2_seenOf := goodIn_r _ [44, 4, 8, 3, 101, 102, 103, 104, 105, 106, 107, 108, 109, 110] (by decide +kernel) (by decide +kernel)
set_option maxRecDepth 20000 in
theorem gX2_digest_X2_seenOf : GoodIn wsX2_digest (wsV RX2 96 RX2 yX2_seenOf wsX2_seenOf) := goodIn_app (goodIn_of _ (by decide +kernel)) ggX2_digest_X2_seenOf
theorem dX2_digest_0 : decode cX2_digest 0 = .ok (.aload_n 0, 1) := by decide +kernel
theorem dX2_digest_1 : decode cX2_digest 1 = .ok (.iconst 0, 1) := by decide +kernel
theorem dX2_digest_2 : decode cX2_digest 2 = .ok (.putfield 35, 3) := by decide +kernel
theorem dX2_digest_5 : decode cX2_digest 5 = .ok (.iconst 5, 1) := by decide +kernel
theorem dX2_digest_6 : decode cX2_digest 6 = .ok (.newarray .int, 2) := by decide +kernel
theorem dX2_digest_8 : decode cX2_digest 8 = .ok (.dup, 1) := by decide +kernel
theorem dX2_digest_9 : decode cX2_digest 9 = .ok (.iconst 0, 1) := by decide +kernel
theorem dX2_digest_10 : decode cX2_digest 10 = .ok (.aload_n 0, 1) := by decide +kernel
theorem dX2_digest_11 : decode cX2_digest 11 = .ok (.getfield 29, 3) := by decide +kernel
theorem dX2_digest_14 : decode cX2_digest 14 = .ok (.iconst 0, 1) := by decide +kernel
theorem dX2_digest_15 : decode cX2_digest 15 = .ok (.iaload, 1) := by decide +kernel
theorem dX2_digest_16 : decode cX2_digest 16 = .ok (.iastore, 1) := by decide +kernel
theorem dX2_digest_17 : decode cX2_digest 17 = .ok (.dup, 1) := by decide +kernel
theorem dX2_digest_18 : decode cX2_digest 18 = .ok (.iconst 1, 1) := by decide +kernel
theorem dX2_digest_19 : decode cX2_digest 19 = .ok (.aload_n 0, 1) := by decide +kernel
theorem dX2_digest_20 : decode cX2_digest 20 = .ok (.getfield 38, 3) := by decide +kernel
theorem dX2_digest_23 : decode cX2_digest 23 = .ok (.iastore, 1) := by decide +kernel
theorem dX2_digest_24 : decode cX2_digest 24 = .ok (.dup, 1) := by decide +kernel
theorem dX2_digest_25 : decode cX2_digest 25 = .ok (.iconst 2, 1) := by decide +kernel
theorem dX2_digest_26 : decode cX2_digest 26 = .ok (.aload_n 0, 1) := by decide +kernel
theorem dX2_digest_27 : decode cX2_digest 27 = .ok (.getfield 9, 3) := by decide +kernel
theorem dX2_digest_30 : decode cX2_digest 30 = .ok (.iastore, 1) := by decide +kernel
theorem dX2_digest_31 : decode cX2_digest 31 = .ok (.dup, 1) := by decide +kernel
theorem dX2_digest_32 : decode cX2_digest 32 = .ok (.iconst 3, 1) := by decide +kernel
theorem dX2_digest_33 : decode cX2_digest 33 = .ok (.aload_n 0, 1) := by decide +kernel
theorem dX2_digest_34 : decode cX2_digest 34 = .ok (.aload_n 0, 1) := by decide +kernel
theorem dX2_digest_35 : decode cX2_digest 35 = .ok (.invokevirtual 56, 3) := by decide +kernel
theorem dX2_digest_38 : decode cX2_digest 38 = .ok (.invokevirtual 86, 3) := by decide +kernel
theorem dX2_digest_41 : decode cX2_digest 41 = .ok (.iastore, 1) := by decide +kernel
theorem dX2_digest_42 : decode cX2_digest 42 = .ok (.dup, 1) := by decide +kernel
theorem dX2_digest_43 : decode cX2_digest 43 = .ok (.iconst 4, 1) := by decide +kernel
theorem dX2_digest_44 : decode cX2_digest 44 = .ok (.aload_n 0, 1) := by decide +kernel
theorem dX2_digest_45 : decode cX2_digest 45 = .ok (.invokevirtual 107, 3) := by decide +kernel
theorem dX2_digest_48 : decode cX2_digest 48 = .ok (.iastore, 1) := by decide +kernel
theorem dX2_digest_49 : decode cX2_digest 49 = .ok (.astore_n 1, 1) := by decide +kernel
theorem dX2_digest_50 : decode cX2_digest 50 = .ok (.ldc2_w 149, 3) := by decide +kernel
theorem dX2_digest_53 : decode cX2_digest 53 = .ok (.lstore_n 2, 1) := by decide +kernel
theorem dX2_digest_54 : decode cX2_digest 54 = .ok (.aload_n 1, 1) := by decide +kernel
theorem dX2_digest_55 : decode cX2_digest 55 = .ok (.astore 4, 2) := by decide +kernel
theorem dX2_digest_57 : decode cX2_digest 57 = .ok (.aload 4, 2) := by decide +kernel
theorem dX2_digest_59 : decode cX2_digest 59 = .ok (.arraylength, 1) := by decide +kernel
theorem dX2_digest_60 : decode cX2_digest 60 = .ok (.istore 5, 2) := by decide +kernel
theorem dX2_digest_62 : decode cX2_digest 62 = .ok (.iconst 0, 1) := by decide +kernel
theorem dX2_digest_63 : decode cX2_digest 63 = .ok (.istore 6, 2) := by decide +kernel
theorem dX2_digest_65 : decode cX2_digest 65 = .ok (.iload 6, 2) := by decide +kernel
theorem dX2_digest_67 : decode cX2_digest 67 = .ok (.iload 5, 2) := by decide +kernel
theorem dX2_digest_69 : decode cX2_digest 69 = .ok (.if_icmp .ge 26, 3) := by decide +kernel
theorem dX2_digest_72 : decode cX2_digest 72 = .ok (.aload 4, 2) := by decide +kernel
theorem dX2_digest_74 : decode cX2_digest 74 = .ok (.iload 6, 2) := by decide +kernel
theorem dX2_digest_76 : decode cX2_digest 76 = .ok (.iaload, 1) := by decide +kernel
theorem dX2_digest_77 : decode cX2_digest 77 = .ok (.istore 7, 2) := by decide +kernel
theorem dX2_digest_79 : decode cX2_digest 79 = .ok (.lload_n 2, 1) := by decide +kernel
theorem dX2_digest_80 : decode cX2_digest 80 = .ok (.ldc2_w 151, 3) := by decide +kernel
theorem dX2_digest_83 : decode cX2_digest 83 = .ok (.lmul, 1) := by decide +kernel
theorem dX2_digest_84 : decode cX2_digest 84 = .ok (.iload 7, 2) := by decide +kernel
theorem dX2_digest_86 : decode cX2_digest 86 = .ok (.i2l, 1) := by decide +kernel
theorem dX2_digest_87 : decode cX2_digest 87 = .ok (.ladd, 1) := by decide +kernel
theorem dX2_digest_88 : decode cX2_digest 88 = .ok (.lstore_n 2, 1) := by decide +kernel
theorem dX2_digest_89 : decode cX2_digest 89 = .ok (.iinc 6 1, 3) := by decide +kernel
theorem dX2_digest_92 : decode cX2_digest 92 = .ok (.goto (-27), 3) := by decide +kernel
theorem dX2_digest_95 : decode cX2_digest 95 = .ok (.lload_n 2, 1) := by decide +kernel
theorem dX2_digest_96 : decode cX2_digest 96 = .ok (.ldc2_w 151, 3) := by decide +kernel
theorem dX2_digest_99 : decode cX2_digest 99 = .ok (.lmul, 1) := by decide +kernel
theorem dX2_digest_100 : decode cX2_digest 100 = .ok (.aload_n 0, 1) := by decide +kernel
theorem dX2_digest_101 : decode cX2_digest 101 = .ok (.invokevirtual 113, 3) := by decide +kernel
theorem dX2_digest_104 : decode cX2_digest 104 = .ok (.ladd, 1) := by decide +kernel
theorem dX2_digest_105 : decode cX2_digest 105 = .ok (.lstore_n 2, 1) := by decide +kernel
theorem dX2_digest_106 : decode cX2_digest 106 = .ok (.iconst 4, 1) := by decide +kernel
theorem dX2_digest_107 : decode cX2_digest 107 = .ok (.newarray .int, 2) := by decide +kernel
theorem dX2_digest_109 : decode cX2_digest 109 = .ok (.dup, 1) := by decide +kernel
theorem dX2_digest_110 : decode cX2_digest 110 = .ok (.iconst 0, 1) := by decide +kernel
theorem dX2_digest_111 : decode cX2_digest 111 = .ok (.aload_n 0, 1) := by decide +kernel
theorem dX2_digest_112 : decode cX2_digest 112 = .ok (.invokevirtual 126, 3) := by decide +kernel
theorem dX2_digest_115 : decode cX2_digest 115 = .ok (.iastore, 1) := by decide +kernel
theorem dX2_digest_116 : decode cX2_digest 116 = .ok (.dup, 1) := by decide +kernel
theorem dX2_digest_117 : decode cX2_digest 117 = .ok (.iconst 1, 1) := by decide +kernel
theorem dX2_digest_118 : decode cX2_digest 118 = .ok (.aload_n 0, 1) := by decide +kernel
theorem dX2_digest_119 : decode cX2_digest 119 = .ok (.bipush 12, 2) := by decide +kernel
theorem dX2_digest_121 : decode cX2_digest 121 = .ok (.iconst 0, 1) := by decide +kernel
theorem dX2_digest_122 : decode cX2_digest 122 = .ok (.invokevirtual 142, 3) := by decide +kernel
theorem dX2_digest_125 : decode cX2_digest 125 = .ok (.iastore, 1) := by decide +kernel
theorem dX2_digest_126 : decode cX2_digest 126 = .ok (.dup, 1) := by decide +kernel
theorem dX2_digest_127 : decode cX2_digest 127 = .ok (.iconst 2, 1) := by decide +kernel
theorem dX2_digest_128 : decode cX2_digest 128 = .ok (.aload_n 0, 1) := by decide +kernel
theorem dX2_digest_129 : decode cX2_digest 129 = .ok (.bipush 12, 2) := by decide +kernel
theorem dX2_digest_131 : decode cX2_digest 131 = .ok (.invokevirtual 146, 3) := by decide +kernel
theorem dX2_digest_134 : decode cX2_digest 134 = .ok (.iastore, 1) := by decide +kernel
theorem dX2_digest_135 : decode cX2_digest 135 = .ok (.dup, 1) := by decide +kernel
theorem dX2_digest_136 : decode cX2_digest 136 = .ok (.iconst 3, 1) := by decide +kernel
theorem dX2_digest_137 : decode cX2_digest 137 = .ok (.aload_n 0, 1) := by decide +kernel
theorem dX2_digest_138 : decode cX2_digest 138 = .ok (.bipush 12, 2) := by decide +kernel
theorem dX2_digest_140 : decode cX2_digest 140 = .ok (.iconst 1, 1) := by decide +kernel
theorem dX2_digest_141 : decode cX2_digest 141 = .ok (.invokevirtual 142, 3) := by decide +kernel
theorem dX2_digest_144 : decode cX2_digest 144 = .ok (.iastore, 1) := by decide +kernel
theorem dX2_digest_145 : decode cX2_digest 145 = .ok (.astore 4, 2) := by decide +kernel
theorem dX2_digest_147 : decode cX2_digest 147 = .ok (.aload 4, 2) := by decide +kernel
theorem dX2_digest_149 : decode cX2_digest 149 = .ok (.astore 5, 2) := by decide +kernel
theorem dX2_digest_151 : decode cX2_digest 151 = .ok (.aload 5, 2) := by decide +kernel
theorem dX2_digest_153 : decode cX2_digest 153 = .ok (.arraylength, 1) := by decide +kernel
theorem dX2_digest_154 : decode cX2_digest 154 = .ok (.istore 6, 2) := by decide +kernel
theorem dX2_digest_156 : decode cX2_digest 156 = .ok (.iconst 0, 1) := by decide +kernel
theorem dX2_digest_157 : decode cX2_digest 157 = .ok (.istore 7, 2) := by decide +kernel
theorem dX2_digest_159 : decode cX2_digest 159 = .ok (.iload 7, 2) := by decide +kernel
theorem dX2_digest_161 : decode cX2_digest 161 = .ok (.iload 6, 2) := by decide +kernel
theorem dX2_digest_163 : decode cX2_digest 163 = .ok (.if_icmp .ge 26, 3) := by decide +kernel
theorem dX2_digest_166 : decode cX2_digest 166 = .ok (.aload 5, 2) := by decide +kernel
theorem dX2_digest_168 : decode cX2_digest 168 = .ok (.iload 7, 2) := by decide +kernel
theorem dX2_digest_170 : decode cX2_digest 170 = .ok (.iaload, 1) := by decide +kernel
theorem dX2_digest_171 : decode cX2_digest 171 = .ok (.istore 8, 2) := by decide +kernel
theorem dX2_digest_173 : decode cX2_digest 173 = .ok (.lload_n 2, 1) := by decide +kernel
theorem dX2_digest_174 : decode cX2_digest 174 = .ok (.ldc2_w 151, 3) := by decide +kernel
theorem dX2_digest_177 : decode cX2_digest 177 = .ok (.lmul, 1) := by decide +kernel
theorem dX2_digest_178 : decode cX2_digest 178 = .ok (.iload 8, 2) := by decide +kernel
theorem dX2_digest_180 : decode cX2_digest 180 = .ok (.i2l, 1) := by decide +kernel
theorem dX2_digest_181 : decode cX2_digest 181 = .ok (.ladd, 1) := by decide +kernel
theorem dX2_digest_182 : decode cX2_digest 182 = .ok (.lstore_n 2, 1) := by decide +kernel
theorem dX2_digest_183 : decode cX2_digest 183 = .ok (.iinc 7 1, 3) := by decide +kernel
theorem dX2_digest_186 : decode cX2_digest 186 = .ok (.goto (-27), 3) := by decide +kernel
theorem dX2_digest_189 : decode cX2_digest 189 = .ok (.iconst 0, 1) := by decide +kernel
theorem dX2_digest_190 : decode cX2_digest 190 = .ok (.istore 5, 2) := by decide +kernel
theorem dX2_digest_192 : decode cX2_digest 192 = .ok (.iload 5, 2) := by decide +kernel
theorem dX2_digest_194 : decode cX2_digest 194 = .ok (.aload_n 0, 1) := by decide +kernel
theorem dX2_digest_195 : decode cX2_digest 195 = .ok (.getfield 38, 3) := by decide +kernel
theorem dX2_digest_198 : decode cX2_digest 198 = .ok (.if_icmp .ge 197, 3) := by decide +kernel
theorem dX2_digest_201 : decode cX2_digest 201 = .ok (.bipush 8, 2) := by decide +kernel
theorem dX2_digest_203 : decode cX2_digest 203 = .ok (.newarray .int, 2) := by decide +kernel
theorem dX2_digest_205 : decode cX2_digest 205 = .ok (.dup, 1) := by decide +kernel
theorem dX2_digest_206 : decode cX2_digest 206 = .ok (.iconst 0, 1) := by decide +kernel
theorem dX2_digest_207 : decode cX2_digest 207 = .ok (.aload_n 0, 1) := by decide +kernel
theorem dX2_digest_208 : decode cX2_digest 208 = .ok (.iload 5, 2) := by decide +kernel
theorem dX2_digest_210 : decode cX2_digest 210 = .ok (.iconst 0, 1) := by decide +kernel
theorem dX2_digest_211 : decode cX2_digest 211 = .ok (.invokevirtual 49, 3) := by decide +kernel
theorem dX2_digest_214 : decode cX2_digest 214 = .ok (.iastore, 1) := by decide +kernel
theorem dX2_digest_215 : decode cX2_digest 215 = .ok (.dup, 1) := by decide +kernel
theorem dX2_digest_216 : decode cX2_digest 216 = .ok (.iconst 1, 1) := by decide +kernel
theorem dX2_digest_217 : decode cX2_digest 217 = .ok (.aload_n 0, 1) := by decide +kernel
theorem dX2_digest_218 : decode cX2_digest 218 = .ok (.iload 5, 2) := by decide +kernel
theorem dX2_digest_220 : decode cX2_digest 220 = .ok (.invokevirtual 53, 3) := by decide +kernel
theorem dX2_digest_223 : decode cX2_digest 223 = .ok (.ifCond .eq 7, 3) := by decide +kernel
theorem dX2_digest_226 : decode cX2_digest 226 = .ok (.iconst 1, 1) := by decide +kernel
theorem dX2_digest_227 : decode cX2_digest 227 = .ok (.goto 4, 3) := by decide +kernel
theorem dX2_digest_230 : decode cX2_digest 230 = .ok (.iconst 0, 1) := by decide +kernel
theorem dX2_digest_231 : decode cX2_digest 231 = .ok (.iastore, 1) := by decide +kernel
theorem dX2_digest_232 : decode cX2_digest 232 = .ok (.dup, 1) := by decide +kernel
theorem dX2_digest_233 : decode cX2_digest 233 = .ok (.iconst 2, 1) := by decide +kernel
theorem dX2_digest_234 : decode cX2_digest 234 = .ok (.aload_n 0, 1) := by decide +kernel
theorem dX2_digest_235 : decode cX2_digest 235 = .ok (.iload 5, 2) := by decide +kernel
theorem dX2_digest_237 : decode cX2_digest 237 = .ok (.invokevirtual 89, 3) := by decide +kernel
theorem dX2_digest_240 : decode cX2_digest 240 = .ok (.ifCond .eq 7, 3) := by decide +kernel
theorem dX2_digest_243 : decode cX2_digest 243 = .ok (.iconst 1, 1) := by decide +kernel
theorem dX2_digest_244 : decode cX2_digest 244 = .ok (.goto 4, 3) := by decide +kernel
theorem dX2_digest_247 : decode cX2_digest 247 = .ok (.iconst 0, 1) := by decide +kernel
theorem dX2_digest_248 : decode cX2_digest 248 = .ok (.iastore, 1) := by decide +kernel
theorem dX2_digest_249 : decode cX2_digest 249 = .ok (.dup, 1) := by decide +kernel
theorem dX2_digest_250 : decode cX2_digest 250 = .ok (.iconst 3, 1) := by decide +kernel
theorem dX2_digest_251 : decode cX2_digest 251 = .ok (.aload_n 0, 1) := by decide +kernel
theorem dX2_digest_252 : decode cX2_digest 252 = .ok (.getfield 13, 3) := by decide +kernel
theorem dX2_digest_255 : decode cX2_digest 255 = .ok (.iload 5, 2) := by decide +kernel
theorem dX2_digest_257 : decode cX2_digest 257 = .ok (.iaload, 1) := by decide +kernel
theorem dX2_digest_258 : decode cX2_digest 258 = .ok (.iastore, 1) := by decide +kernel
theorem dX2_digest_259 : decode cX2_digest 259 = .ok (.dup, 1) := by decide +kernel
theorem dX2_digest_260 : decode cX2_digest 260 = .ok (.iconst 4, 1) := by decide +kernel
theorem dX2_digest_261 : decode cX2_digest 261 = .ok (.aload_n 0, 1) := by decide +kernel
theorem dX2_digest_262 : decode cX2_digest 262 = .ok (.getfield 29, 3) := by decide +kernel
theorem dX2_digest_265 : decode cX2_digest 265 = .ok (.iconst 1, 1) := by decide +kernel
theorem dX2_digest_266 : decode cX2_digest 266 = .ok (.iload 5, 2) := by decide +kernel
theorem dX2_digest_268 : decode cX2_digest 268 = .ok (.iadd, 1) := by decide +kernel
theorem dX2_digest_269 : decode cX2_digest 269 = .ok (.iaload, 1) := by decide +kernel
theorem dX2_digest_270 : decode cX2_digest 270 = .ok (.iastore, 1) := by decide +kernel
theorem dX2_digest_271 : decode cX2_digest 271 = .ok (.dup, 1) := by decide +kernel
theorem dX2_digest_272 : decode cX2_digest 272 = .ok (.iconst 5, 1) := by decide +kernel
theorem dX2_digest_273 : decode cX2_digest 273 = .ok (.aload_n 0, 1) := by decide +kernel
theorem dX2_digest_274 : decode cX2_digest 274 = .ok (.getfield 29, 3) := by decide +kernel
theorem dX2_digest_277 : decode cX2_digest 277 = .ok (.bipush 9, 2) := by decide +kernel
theorem dX2_digest_279 : decode cX2_digest 279 = .ok (.iload 5, 2) := by decide +kernel
theorem dX2_digest_281 : decode cX2_digest 281 = .ok (.iadd, 1) := by decide +kernel
theorem dX2_digest_282 : decode cX2_digest 282 = .ok (.iaload, 1) := by decide +kernel
theorem dX2_digest_283 : decode cX2_digest 283 = .ok (.iastore, 1) := by decide +kernel
theorem dX2_digest_284 : decode cX2_digest 284 = .ok (.dup, 1) := by decide +kernel
theorem dX2_digest_285 : decode cX2_digest 285 = .ok (.bipush 6, 2) := by decide +kernel
theorem dX2_digest_287 : decode cX2_digest 287 = .ok (.aload_n 0, 1) := by decide +kernel
theorem dX2_digest_288 : decode cX2_digest 288 = .ok (.iload 5, 2) := by decide +kernel
theorem dX2_digest_290 : decode cX2_digest 290 = .ok (.aload_n 0, 1) := by decide +kernel
theorem dX2_digest_291 : decode cX2_digest 291 = .ok (.getfield 20, 3) := by decide +kernel
theorem dX2_digest_294 : decode cX2_digest 294 = .ok (.iload 5, 2) := by decide +kernel
theorem dX2_digest_296 : decode cX2_digest 296 = .ok (.iaload, 1) := by decide +kernel
theorem dX2_digest_297 : decode cX2_digest 297 = .ok (.invokevirtual 123, 3) := by decide +kernel
theorem dX2_digest_300 : decode cX2_digest 300 = .ok (.iastore, 1) := by decide +kernel
theorem dX2_digest_301 : decode cX2_digest 301 = .ok (.dup, 1) := by decide +kernel
theorem dX2_digest_302 : decode cX2_digest 302 = .ok (.bipush 7, 2) := by decide +kernel
theorem dX2_digest_304 : decode cX2_digest 304 = .ok (.aload_n 0, 1) := by decide +kernel
theorem dX2_digest_305 : decode cX2_digest 305 = .ok (.iload 5, 2) := by decide +kernel
theorem dX2_digest_307 : decode cX2_digest 307 = .ok (.invokevirtual 129, 3) := by decide +kernel
theorem dX2_digest_310 : decode cX2_digest 310 = .ok (.iastore, 1) := by decide +kernel
theorem dX2_digest_311 : decode cX2_digest 311 = .ok (.astore 6, 2) := by decide +kernel
theorem dX2_digest_313 : decode cX2_digest 313 = .ok (.aload 6, 2) := by decide +kernel
theorem dX2_digest_315 : decode cX2_digest 315 = .ok (.astore 7, 2) := by decide +kernel
theorem dX2_digest_317 : decode cX2_digest 317 = .ok (.aload 7, 2) := by decide +kernel
theorem dX2_digest_319 : decode cX2_digest 319 = .ok (.arraylength, 1) := by decide +kernel
theorem dX2_digest_320 : decode cX2_digest 320 = .ok (.istore 8, 2) := by decide +kernel
theorem dX2_digest_322 : decode cX2_digest 322 = .ok (.iconst 0, 1) := by decide +kernel
theorem dX2_digest_323 : decode cX2_digest 323 = .ok (.istore 9, 2) := by decide +kernel
theorem dX2_digest_325 : decode cX2_digest 325 = .ok (.iload 9, 2) := by decide +kernel
theorem dX2_digest_327 : decode cX2_digest 327 = .ok (.iload 8, 2) := by decide +kernel
theorem dX2_digest_329 : decode cX2_digest 329 = .ok (.if_icmp .ge 26, 3) := by decide +kernel
theorem dX2_digest_332 : decode cX2_digest 332 = .ok (.aload 7, 2) := by decide +kernel
theorem dX2_digest_334 : decode cX2_digest 334 = .ok (.iload 9, 2) := by decide +kernel
theorem dX2_digest_336 : decode cX2_digest 336 = .ok (.iaload, 1) := by decide +kernel
theorem dX2_digest_337 : decode cX2_digest 337 = .ok (.istore 10, 2) := by decide +kernel
theorem dX2_digest_339 : decode cX2_digest 339 = .ok (.lload_n 2, 1) := by decide +kernel
theorem dX2_digest_340 : decode cX2_digest 340 = .ok (.ldc2_w 151, 3) := by decide +kernel
theorem dX2_digest_343 : decode cX2_digest 343 = .ok (.lmul, 1) := by decide +kernel
theorem dX2_digest_344 : decode cX2_digest 344 = .ok (.iload 10, 2) := by decide +kernel
theorem dX2_digest_346 : decode cX2_digest 346 = .ok (.i2l, 1) := by decide +kernel
theorem dX2_digest_347 : decode cX2_digest 347 = .ok (.ladd, 1) := by decide +kernel
theorem dX2_digest_348 : decode cX2_digest 348 = .ok (.lstore_n 2, 1) := by decide +kernel
theorem dX2_digest_349 : decode cX2_digest 349 = .ok (.iinc 9 1, 3) := by decide +kernel
theorem dX2_digest_352 : decode cX2_digest 352 = .ok (.goto (-27), 3) := by decide +kernel
theorem dX2_digest_355 : decode cX2_digest 355 = .ok (.iconst 0, 1) := by decide +kernel
theorem dX2_digest_356 : decode cX2_digest 356 = .ok (.istore 7, 2) := by decide +kernel
theorem dX2_digest_358 : decode cX2_digest 358 = .ok (.iload 7, 2) := by decide +kernel
theorem dX2_digest_360 : decode cX2_digest 360 = .ok (.aload_n 0, 1) := by decide +kernel
theorem dX2_digest_361 : decode cX2_digest 361 = .ok (.getfield 38, 3) := by decide +kernel
theorem dX2_digest_364 : decode cX2_digest 364 = .ok (.if_icmp .ge 25, 3) := by decide +kernel
theorem dX2_digest_367 : decode cX2_digest 367 = .ok (.lload_n 2, 1) := by decide +kernel
theorem dX2_digest_368 : decode cX2_digest 368 = .ok (.ldc2_w 151, 3) := by decide +kernel
theorem dX2_digest_371 : decode cX2_digest 371 = .ok (.lmul, 1) := by decide +kernel
theorem dX2_digest_372 : decode cX2_digest 372 = .ok (.aload_n 0, 1) := by decide +kernel
theorem dX2_digest_373 : decode cX2_digest 373 = .ok (.iload 5, 2) := by decide +kernel
theorem dX2_digest_375 : decode cX2_digest 375 = .ok (.iload 7, 2) := by decide +kernel
theorem dX2_digest_377 : decode cX2_digest 377 = .ok (.invokevirtual 120, 3) := by decide +kernel
theorem dX2_digest_380 : decode cX2_digest 380 = .ok (.i2l, 1) := by decide +kernel
theorem dX2_digest_381 : decode cX2_digest 381 = .ok (.ladd, 1) := by decide +kernel
theorem dX2_digest_382 : decode cX2_digest 382 = .ok (.lstore_n 2, 1) := by decide +kernel
theorem dX2_digest_383 : decode cX2_digest 383 = .ok (.iinc 7 1, 3) := by decide +kernel
theorem dX2_digest_386 : decode cX2_digest 386 = .ok (.goto (-28), 3) := by decide +kernel
theorem dX2_digest_389 : decode cX2_digest 389 = .ok (.iinc 5 1, 3) := by decide +kernel
theorem dX2_digest_392 : decode cX2_digest 392 = .ok (.goto (-200), 3) := by decide +kernel
theorem dX2_digest_395 : decode cX2_digest 395 = .ok (.iconst 0, 1) := by decide +kernel
theorem dX2_digest_396 : decode cX2_digest 396 = .ok (.istore 5, 2) := by decide +kernel
theorem dX2_digest_398 : decode cX2_digest 398 = .ok (.iload 5, 2) := by decide +kernel
theorem dX2_digest_400 : decode cX2_digest 400 = .ok (.bipush 6, 2) := by decide +kernel
theorem dX2_digest_402 : decode cX2_digest 402 = .ok (.if_icmp .ge 23, 3) := by decide +kernel
theorem dX2_digest_405 : decode cX2_digest 405 = .ok (.lload_n 2, 1) := by decide +kernel
theorem dX2_digest_406 : decode cX2_digest 406 = .ok (.ldc2_w 151, 3) := by decide +kernel
theorem dX2_digest_409 : decode cX2_digest 409 = .ok (.lmul, 1) := by decide +kernel
theorem dX2_digest_410 : decode cX2_digest 410 = .ok (.aload_n 0, 1) := by decide +kernel
theorem dX2_digest_411 : decode cX2_digest 411 = .ok (.iload 5, 2) := by decide +kernel
theorem dX2_digest_413 : decode cX2_digest 413 = .ok (.invokevirtual 96, 3) := by decide +kernel
theorem dX2_digest_416 : decode cX2_digest 416 = .ok (.i2l, 1) := by decide +kernel
theorem dX2_digest_417 : decode cX2_digest 417 = .ok (.ladd, 1) := by decide +kernel
theorem dX2_digest_418 : decode cX2_digest 418 = .ok (.lstore_n 2, 1) := by decide +kernel
theorem dX2_digest_419 : decode cX2_digest 419 = .ok (.iinc 5 1, 3) := by decide +kernel
theorem dX2_digest_422 : decode cX2_digest 422 = .ok (.goto (-24), 3) := by decide +kernel
theorem dX2_digest_425 : decode cX2_digest 425 = .ok (.lload_n 2, 1) := by decide +kernel
theorem dX2_digest_426 : decode cX2_digest 426 = .ok (.lreturn, 1) := by decide +kernel
theorem dJ9_max_7cf53_0 : decode cJ9_max_7cf53 0 = .ok (.iload_n 0, 1) := by decide +kernel
theorem dJ9_max_7cf53_1 : decode cJ9_max_7cf53 1 = .ok (.iload_n 1, 1) := by decide +kernel
theorem dJ9_max_7cf53_2 : decode cJ9_max_7cf53 2 = .ok (.if_icmp .lt 7, 3) := by decide +kernel
theorem dJ9_max_7cf53_5 : decode cJ9_max_7cf53 5 = .ok (.iload_n 0, 1) := by decide +kernel
theorem dJ9_max_7cf53_6 : decode cJ9_max_7cf53 6 = .ok (.goto 4, 3) := by decide +kernel
theorem dJ9_max_7cf53_9 : decode cJ9_max_7cf53 9 = .ok (.iload_n 1, 1) := by decide +kernel
theorem dJ9_max_7cf53_10 : decode cJ9_max_7cf53 10 = .ok (.ireturn, 1) := by decide +kernel
theorem dJ9_min_7cf53_0 : decode cJ9_min_7cf53 0 = .ok (.iload_n 0, 1) := by decide +kernel
theorem dJ9_min_7cf53_1 : decode cJ9_min_7cf53 1 = .ok (.iload_n 1, 1) := by decide +kernel
theorem dJ9_min_7cf53_2 : decode cJ9_min_7cf53 2 = .ok (.if_icmp .gt 7, 3) := by decide +kernel
theorem dJ9_min_7cf53_5 : decode cJ9_min_7cf53 5 = .ok (.iload_n 0, 1) := by decide +kernel
theorem dJ9_min_7cf53_6 : decode cJ9_min_7cf53 6 = .ok (.goto 4, 3) := by decide +kernel
theorem dJ9_min_7cf53_9 : decode cJ9_min_7cf53 9 = .ok (.iload_n 1, 1) := by decide +kernel
theorem dJ9_min_7cf53_10 : decode cJ9_min_7cf53 10 = .ok (.ireturn, 1) := by decide +kernel
theorem dJxa1e45_init_da8c8_0 : decode cJxa1e45_init_da8c8 0 = .ok (.aload_n 0, 1) := by decide +kernel
theorem dJxa1e45_init_da8c8_1 : decode cJxa1e45_init_da8c8 1 = .ok (.invokespecial 1, 3) := by decide +kernel
theorem dJxa1e45_init_da8c8_4 : decode cJxa1e45_init_da8c8 4 = .ok (.return_, 1) := by decide +kernel
set_option maxRecDepth 20000 in
theorem ggJxc12de_init_da8c8_Jxa1e45_init_da8c8 : GoodIn wsJxc12de_init_da8c8 wsJxa1e45_init_da8c8 := goodIn_r _ [5, 6, 7, 8] (by decide +kernel) (by decide +kernel)
set_option maxRecDepth 20000 in
theorem gJxc12de_init_da8c8_Jxa1e45_init_da8c8 : GoodIn wsJxc12de_init_da8c8 (wsJxa1e45_init_da8c8) := ggJxc12de_init_da8c8_Jxa1e45_init_da8c8
theorem dJxc12de_init_da8c8_0 : decode cJxc12de_init_da8c8 0 = .ok (.aload_n 0, 1) := by decide +kernel
theorem dJxc12de_init_da8c8_1 : decode cJxc12de_init_da8c8 1 = .ok (.invokespecial 1, 3) := by decide +kernel
theorem dJxc12de_init_da8c8_4 : decode cJxc12de_init_da8c8 4 = .ok (.aload_n 0, 1) := by decide +kernel
theorem dJxc12de_init_da8c8_5 : decode cJxc12de_init_da8c8 5 = .ok (.iconst 0, 1) := by decide +kernel
theorem dJxc12de_init_da8c8_6 : decode cJxc12de_init_da8c8 6 = .ok (.putfield 7, 3) := by decide +kernel
theorem dJxc12de_init_da8c8_9 : decode cJxc12de_init_da8c8 9 = .ok (.return_, 1) := by decide +kernel
set_option maxRecDepth 20000 in
theorem ggJx4a65c_init_da8c8_Jxc12de_init_da8c8 : GoodIn wsJx4a65c_init_da8c8 wsJxc12de_init_da8c8 := goodIn_r _ [6, 7, 8, 9, 10, 11, 12, 13, 14, 15, 16, 17] (by decide +kernel) (by decide +kernel)
set_option maxRecDepth 20000 in
theorem gJx4a65c_init_da8c8_Jxc12de_init_da8c8 : GoodIn wsJx4a65c_init_da8c8 (wsJxc12de_init_da8c8) := ggJx4a65c_init_da8c8_Jxc12de_init_da8c8
theorem dJx4a65c_init_da8c8_0 : decode cJx4a65c_init_da8c8 0 = .ok (.aload_n 0, 1) := by decide +kernel
theorem dJx4a65c_init_da8c8_1 : decode cJx4a65c_init_da8c8 1 = .ok (.invokespecial 1, 3) := by decide +kernel
theorem dJx4a65c_init_da8c8_4 : decode cJx4a65c_init_da8c8 4 = .ok (.aload_n 0, 1) := by decide +kernel
theorem dJx4a65c_init_da8c8_5 : decode cJx4a65c_init_da8c8 5 = .ok (.getstatic 39, 3) := by decide +kernel
theorem dJx4a65c_init_da8c8_8 : decode cJx4a65c_init_da8c8 8 = .ok (.putfield 9, 3) := by decide +kernel
theorem dJx4a65c_init_da8c8_11 : decode cJx4a65c_init_da8c8 11 = .ok (.return_, 1) := by decide +kernel
set_option maxRecDepth 20000 in
theorem ggJx4a65c_grow_92f84_J8_newLength_cabcc : GoodIn wsJx4a65c_grow_92f84 wsJ8_newLength_cabcc := goodIn_r _ [11, 12, 4, 5, 6, 13, 14, 15, 10, 16] (by decide +kernel) (by decide +kernel)
set_option maxRecDepth 20000 in
theorem gJx4a65c_grow_92f84_J8_newLength_cabcc : GoodIn wsJx4a65c_grow_92f84 (va_wsS RJx4a65c 73 yJ8_newLength_cabcc wsJ8_newLength_cabcc) := goodIn_app (goodIn_of _ (by decide +kernel)) ggJx4a65c_grow_92f84_J8_newLength_cabcc
set_option maxRecDepth 20000 in
theorem ggJx4a65c_grow_92f84_J7_copyOf_1904c : GoodIn wsJx4a65c_grow_92f84 wsJ7_copyOf_1904c := goodIn_r _ [20, 21, 22, 23, 24, 25, 26, 19, 27, 28, 29, 30, 31, 5, 32, 33, 34, 35, 36] (by decide +kernel) (by decide +kernel)
set_option maxRecDepth 20000 in
theorem gJx4a65c_grow_92f84_J7_copyOf_1904c : GoodIn wsJx4a65c_grow_92f84 (va_wsS RJx4a65c 66 yJ7_copyOf_1904c wsJ7_copyOf_1904c) := goodIn_app (goodIn_of _ (by decide +kernel)) ggJx4a65c_grow_92f84_J7_copyOf_1904c
theorem dJx4a65c_grow_92f84_0 : decode cJx4a65c_grow_92f84 0 = .ok (.aload_n 0, 1) := by decide +kernel
theorem dJx4a65c_grow_92f84_1 : decode cJx4a65c_grow_92f84 1 = .ok (.getfield 9, 3) := by decide +kernel
theorem dJx4a65c_grow_92f84_4 : decode cJx4a65c_grow_92f84 4 = .ok (.arraylength, 1) := by decide +kernel
theorem dJx4a65c_grow_92f84_5 : decode cJx4a65c_grow_92f84 5 = .ok (.istore_n 2, 1) := by decide +kernel
theorem dJx4a65c_grow_92f84_6 : decode cJx4a65c_grow_92f84 6 = .ok (.iload_n 2, 1) := by decide +kernel
theorem dJx4a65c_grow_92f84_7 : decode cJx4a65c_grow_92f84 7 = .ok (.ifCond .gt 13, 3) := by decide +kernel
theorem dJx4a65c_grow_92f84_10 : decode cJx4a65c_grow_92f84 10 = .ok (.aload_n 0, 1) := by decide +kernel
theorem dJx4a65c_grow_92f84_11 : decode cJx4a65c_grow_92f84 11 = .ok (.getfield 9, 3) := by decide +kernel
theorem dJx4a65c_grow_92f84_14 : decode cJx4a65c_grow_92f84 14 = .ok (.getstatic 39, 3) := by decide +kernel
theorem dJx4a65c_grow_92f84_17 : decode cJx4a65c_grow_92f84 17 = .ok (.if_acmp .eq 28, 3) := by decide +kernel
theorem dJx4a65c_grow_92f84_20 : decode cJx4a65c_grow_92f84 20 = .ok (.iload_n 2, 1) := by decide +kernel
theorem dJx4a65c_grow_92f84_21 : decode cJx4a65c_grow_92f84 21 = .ok (.iload_n 1, 1) := by decide +kernel
theorem dJx4a65c_grow_92f84_22 : decode cJx4a65c_grow_92f84 22 = .ok (.iload_n 2, 1) := by decide +kernel
theorem dJx4a65c_grow_92f84_23 : decode cJx4a65c_grow_92f84 23 = .ok (.isub, 1) := by decide +kernel
theorem dJx4a65c_grow_92f84_24 : decode cJx4a65c_grow_92f84 24 = .ok (.iload_n 2, 1) := by decide +kernel
theorem dJx4a65c_grow_92f84_25 : decode cJx4a65c_grow_92f84 25 = .ok (.iconst 1, 1) := by decide +kernel
theorem dJx4a65c_grow_92f84_26 : decode cJx4a65c_grow_92f84 26 = .ok (.ishr, 1) := by decide +kernel
theorem dJx4a65c_grow_92f84_27 : decode cJx4a65c_grow_92f84 27 = .ok (.invokestatic 73, 3) := by decide +kernel
theorem dJx4a65c_grow_92f84_30 : decode cJx4a65c_grow_92f84 30 = .ok (.istore_n 3, 1) := by decide +kernel
theorem dJx4a65c_grow_92f84_31 : decode cJx4a65c_grow_92f84 31 = .ok (.aload_n 0, 1) := by decide +kernel
theorem dJx4a65c_grow_92f84_32 : decode cJx4a65c_grow_92f84 32 = .ok (.aload_n 0, 1) := by decide +kernel
theorem dJx4a65c_grow_92f84_33 : decode cJx4a65c_grow_92f84 33 = .ok (.getfield 9, 3) := by decide +kernel
theorem dJx4a65c_grow_92f84_36 : decode cJx4a65c_grow_92f84 36 = .ok (.iload_n 3, 1) := by decide +kernel
theorem dJx4a65c_grow_92f84_37 : decode cJx4a65c_grow_92f84 37 = .ok (.invokestatic 66, 3) := by decide +kernel
theorem dJx4a65c_grow_92f84_40 : decode cJx4a65c_grow_92f84 40 = .ok (.dup_x1, 1) := by decide +kernel
theorem dJx4a65c_grow_92f84_41 : decode cJx4a65c_grow_92f84 41 = .ok (.putfield 9, 3) := by decide +kernel
theorem dJx4a65c_grow_92f84_44 : decode cJx4a65c_grow_92f84 44 = .ok (.areturn, 1) := by decide +kernel
theorem dJx4a65c_grow_92f84_45 : decode cJx4a65c_grow_92f84 45 = .ok (.aload_n 0, 1) := by decide +kernel
theorem dJx4a65c_grow_92f84_46 : decode cJx4a65c_grow_92f84 46 = .ok (.bipush 10, 2) := by decide +kernel
theorem dJx4a65c_grow_92f84_48 : decode cJx4a65c_grow_92f84 48 = .ok (.iload_n 1, 1) := by decide +kernel
theorem dJx4a65c_grow_92f84_49 : decode cJx4a65c_grow_92f84 49 = .ok (.invokestatic 79, 3) := by decide +kernel
theorem dJx4a65c_grow_92f84_52 : decode cJx4a65c_grow_92f84 52 = .ok (.anewarray 7, 3) := by decide +kernel
theorem dJx4a65c_grow_92f84_55 : decode cJx4a65c_grow_92f84 55 = .ok (.dup_x1, 1) := by decide +kernel
theorem dJx4a65c_grow_92f84_56 : decode cJx4a65c_grow_92f84 56 = .ok (.putfield 9, 3) := by decide +kernel
theorem dJx4a65c_grow_92f84_59 : decode cJx4a65c_grow_92f84 59 = .ok (.areturn, 1) := by decide +kernel
set_option maxRecDepth 20000 in
theorem ggJx4a65c_grow_d5877_Jx4a65c_grow_92f84 : GoodIn wsJx4a65c_grow_d5877 wsJx4a65c_grow_92f84 := goodIn_r _ [6, 7, 8, 9, 10, 11, 12, 13, 14, 15, 16, 17, 18, 19, 20, 21, 22, 23, 24, 25, 26, 27, 28, 29, 30, 31, 32, 33, 34, 35, 36, 37, 38, 39, 40, 41, 42, 43, 44, 45] (by decide +kernel) (by decide +kernel)
set_option maxRecDepth 20000 in
theorem gJx4a65c_grow_d5877_Jx4a65c_grow_92f84 : GoodIn wsJx4a65c_grow_d5877 (wsV RJx4a65c 69 RJx4a65c yJx4a65c_grow_92f84 wsJx4a65c_grow_92f84) := goodIn_app (goodIn_of _ (by decide +kernel)) ggJx4a65c_grow_d5877_Jx4a65c_grow_92f84
theorem dJx4a65c_grow_d5877_0 : decode cJx4a65c_grow_d5877 0 = .ok (.aload_n 0, 1) := by decide +kernel
theorem dJx4a65c_grow_d5877_1 : decode cJx4a65c_grow_d5877 1 = .ok (.aload_n 0, 1) := by decide +kernel
theorem dJx4a65c_grow_d5877_2 : decode cJx4a65c_grow_d5877 2 = .ok (.getfield 48, 3) := by decide +kernel
theorem dJx4a65c_grow_d5877_5 : decode cJx4a65c_grow_d5877 5 = .ok (.iconst 1, 1) := by decide +kernel
theorem dJx4a65c_grow_d5877_6 : decode cJx4a65c_grow_d5877 6 = .ok (.iadd, 1) := by decide +kernel
theorem dJx4a65c_grow_d5877_7 : decode cJx4a65c_grow_d5877 7 = .ok (.invokevirtual 69, 3) := by decide +kernel
theorem dJx4a65c_grow_d5877_10 : decode cJx4a65c_grow_d5877 10 = .ok (.areturn, 1) := by decide +kernel
theorem dJx4a65c_size_8abf5_0 : decode cJx4a65c_size_8abf5 0 = .ok (.aload_n 0, 1) := by decide +kernel
theorem dJx4a65c_size_8abf5_1 : decode cJx4a65c_size_8abf5 1 = .ok (.getfield 48, 3) := by decide +kernel
theorem dJx4a65c_size_8abf5_4 : decode cJx4a65c_size_8abf5 4 = .ok (.ireturn, 1) := by decide +kernel
theorem dJx4a65c_elementData_915e3_0 : decode cJx4a65c_elementData_915e3 0 = .ok (.aload_n 0, 1) := by decide +kernel
theorem dJx4a65c_elementData_915e3_1 : decode cJx4a65c_elementData_915e3 1 = .ok (.getfield 9, 3) := by decide +kernel
theorem dJx4a65c_elementData_915e3_4 : decode cJx4a65c_elementData_915e3 4 = .ok (.iload_n 1, 1) := by decide +kernel
theorem dJx4a65c_elementData_915e3_5 : decode cJx4a65c_elementData_915e3 5 = .ok (.aaload, 1) := by decide +kernel
theorem dJx4a65c_elementData_915e3_6 : decode cJx4a65c_elementData_915e3 6 = .ok (.areturn, 1) := by decide +kernel
set_option maxRecDepth 20000 in
theorem ggJx4a65c_get_915e3_J15_checkIndex_7cf53 : GoodIn wsJx4a65c_get_915e3 wsJ15_checkIndex_7cf53 := goodIn_r _ [5, 6, 7, 8, 9] (by decide +kernel) (by decide +kernel)
set_option maxRecDepth 20000 in
theorem gJx4a65c_get_915e3_J15_checkIndex_7cf53 : GoodIn wsJx4a65c_get_915e3 (va_wsS RJx4a65c 118 yJ15_checkIndex_7cf53 wsJ15_checkIndex_7cf53) := goodIn_app (goodIn_of _ (by decide +kernel)) ggJx4a65c_get_915e3_J15_checkIndex_7cf53
set_option maxRecDepth 20000 in
theorem ggJx4a65c_get_915e3_Jx4a65c_elementData_915e3 : GoodIn wsJx4a65c_get_915e3 wsJx4a65c_elementData_915e3 := goodIn_r _ [14, 15, 16, 17, 18] (by decide +kernel) (by decide +kernel)
set_option maxRecDepth 20000 in
theorem gJx4a65c_get_915e3_Jx4a65c_elementData_915e3 : GoodIn wsJx4a65c_get_915e3 (wsV RJx4a65c 123 RJx4a65c yJx4a65c_elementData_915e3 wsJx4a65c_elementData_915e3) := goodIn_app (goodIn_of _ (by decide +kernel)) ggJx4a65c_get_915e3_Jx4a65c_elementData_915e3
theorem dJx4a65c_get_915e3_0 : decode cJx4a65c_get_915e3 0 = .ok (.iload_n 1, 1) := by decide +kernel
theorem dJx4a65c_get_915e3_1 : decode cJx4a65c_get_915e3 1 = .ok (.aload_n 0, 1) := by decide +kernel
theorem dJx4a65c_get_915e3_2 : decode cJx4a65c_get_915e3 2 = .ok (.getfield 48, 3) := by decide +kernel
theorem dJx4a65c_get_915e3_5 : decode cJx4a65c_get_915e3 5 = .ok (.invokestatic 118, 3) := by decide +kernel
theorem dJx4a65c_get_915e3_8 : decode cJx4a65c_get_915e3 8 = .ok (.pop, 1) := by decide +kernel
theorem dJx4a65c_get_915e3_9 : decode cJx4a65c_get_915e3 9 = .ok (.aload_n 0, 1) := by decide +kernel
theorem dJx4a65c_get_915e3_10 : decode cJx4a65c_get_915e3 10 = .ok (.iload_n 1, 1) := by decide +kernel
theorem dJx4a65c_get_915e3_11 : decode cJx4a65c_get_915e3 11 = .ok (.invokevirtual 123, 3) := by decide +kernel
theorem dJx4a65c_get_915e3_14 : decode cJx4a65c_get_915e3 14 = .ok (.areturn, 1) := by decide +kernel
set_option maxRecDepth 20000 in
theorem ggJx4a65c_add_72be8_Jx4a65c_grow_d5877 : GoodIn wsJx4a65c_add_72be8 wsJx4a65c_grow_d5877 := goodIn_r _ [6, 1, 7, 8, 9, 5, 10, 11, 12, 13, 14, 15, 16, 17, 18, 19, 20, 21, 22, 23, 24, 25, 26, 27, 28, 29, 30, 31, 32, 33, 34, 35, 36, 37, 38, 39, 40, 41, 42, 43, 44, 45, 46, 47, 48, 49] (by decide +kernel) (by decide +kernel)
set_option maxRecDepth 20000 in
theorem gJx4a65c_add_72be8_Jx4a65c_grow_d5877 : GoodIn wsJx4a65c_add_72be8 (wsV RJx4a65c 129 RJx4a65c yJx4a65c_grow_d5877 wsJx4a65c_grow_d5877) := goodIn_app (goodIn_of _ (by decide +kernel)) ggJx4a65c_add_72be8_Jx4a65c_grow_d5877
theorem dJx4a65c_add_72be8_0 : decode cJx4a65c_add_72be8 0 = .ok (.iload_n 3, 1) := by decide +kernel
theorem dJx4a65c_add_72be8_1 : decode cJx4a65c_add_72be8 1 = .ok (.aload_n 2, 1) := by decide +kernel
theorem dJx4a65c_add_72be8_2 : decode cJx4a65c_add_72be8 2 = .ok (.arraylength, 1) := by decide +kernel
theorem dJx4a65c_add_72be8_3 : decode cJx4a65c_add_72be8 3 = .ok (.if_icmp .ne 8, 3) := by decide +kernel
theorem dJx4a65c_add_72be8_6 : decode cJx4a65c_add_72be8 6 = .ok (.aload_n 0, 1) := by decide +kernel
theorem dJx4a65c_add_72be8_7 : decode cJx4a65c_add_72be8 7 = .ok (.invokevirtual 129, 3) := by decide +kernel
theorem dJx4a65c_add_72be8_10 : decode cJx4a65c_add_72be8 10 = .ok (.astore_n 2, 1) := by decide +kernel
theorem dJx4a65c_add_72be8_11 : decode cJx4a65c_add_72be8 11 = .ok (.aload_n 2, 1) := by decide +kernel
theorem dJx4a65c_add_72be8_12 : decode cJx4a65c_add_72be8 12 = .ok (.iload_n 3, 1) := by decide +kernel
theorem dJx4a65c_add_72be8_13 : decode cJx4a65c_add_72be8 13 = .ok (.aload_n 1, 1) := by decide +kernel
theorem dJx4a65c_add_72be8_14 : decode cJx4a65c_add_72be8 14 = .ok (.aastore, 1) := by decide +kernel
theorem dJx4a65c_add_72be8_15 : decode cJx4a65c_add_72be8 15 = .ok (.aload_n 0, 1) := by decide +kernel
theorem dJx4a65c_add_72be8_16 : decode cJx4a65c_add_72be8 16 = .ok (.iload_n 3, 1) := by decide +kernel
theorem dJx4a65c_add_72be8_17 : decode cJx4a65c_add_72be8 17 = .ok (.iconst 1, 1) := by decide +kernel
theorem dJx4a65c_add_72be8_18 : decode cJx4a65c_add_72be8 18 = .ok (.iadd, 1) := by decide +kernel
theorem dJx4a65c_add_72be8_19 : decode cJx4a65c_add_72be8 19 = .ok (.putfield 48, 3) := by decide +kernel
theorem dJx4a65c_add_72be8_22 : decode cJx4a65c_add_72be8 22 = .ok (.return_, 1) := by decide +kernel
set_option maxRecDepth 20000 in
theorem ggJx4a65c_add_9ea2d_Jx4a65c_add_72be8 : GoodIn wsJx4a65c_add_9ea2d wsJx4a65c_add_72be8 := goodIn_r _ [9, 4, 10, 11, 12, 8, 13, 14, 15, 16, 17, 3, 18, 19, 20, 21, 22, 23, 24, 25, 26, 27, 28, 29, 30, 31, 32, 33, 34, 35, 36, 37, 38, 39, 40, 41, 42, 43, 44, 45, 46, 47, 48, 49, 50, 51, 52, 53, 54, 55] (by decide +kernel) (by decide +kernel)
set_option maxRecDepth 20000 in
theorem gJx4a65c_add_9ea2d_Jx4a65c_add_72be8 : GoodIn wsJx4a65c_add_9ea2d (wsV RJx4a65c 131 RJx4a65c yJx4a65c_add_72be8 wsJx4a65c_add_72be8) := goodIn_app (goodIn_of _ (by decide +kernel)) ggJx4a65c_add_9ea2d_Jx4a65c_add_72be8
theorem dJx4a65c_add_9ea2d_0 : decode cJx4a65c_add_9ea2d 0 = .ok (.aload_n 0, 1) := by decide +kernel
theorem dJx4a65c_add_9ea2d_1 : decode cJx4a65c_add_9ea2d 1 = .ok (.dup, 1) := by decide +kernel
theorem dJx4a65c_add_9ea2d_2 : decode cJx4a65c_add_9ea2d 2 = .ok (.getfield 63, 3) := by decide +kernel
theorem dJx4a65c_add_9ea2d_5 : decode cJx4a65c_add_9ea2d 5 = .ok (.iconst 1, 1) := by decide +kernel
theorem dJx4a65c_add_9ea2d_6 : decode cJx4a65c_add_9ea2d 6 = .ok (.iadd, 1) := by decide +kernel
theorem dJx4a65c_add_9ea2d_7 : decode cJx4a65c_add_9ea2d 7 = .ok (.putfield 63, 3) := by decide +kernel
theorem dJx4a65c_add_9ea2d_10 : decode cJx4a65c_add_9ea2d 10 = .ok (.aload_n 0, 1) := by decide +kernel
theorem dJx4a65c_add_9ea2d_11 : decode cJx4a65c_add_9ea2d 11 = .ok (.aload_n 1, 1) := by decide +kernel
theorem dJx4a65c_add_9ea2d_12 : decode cJx4a65c_add_9ea2d 12 = .ok (.aload_n 0, 1) := by decide +kernel
theorem dJx4a65c_add_9ea2d_13 : decode cJx4a65c_add_9ea2d 13 = .ok (.getfield 9, 3) := by decide +kernel
theorem dJx4a65c_add_9ea2d_16 : decode cJx4a65c_add_9ea2d 16 = .ok (.aload_n 0, 1) := by decide +kernel
theorem dJx4a65c_add_9ea2d_17 : decode cJx4a65c_add_9ea2d 17 = .ok (.getfield 48, 3) := by decide +kernel
theorem dJx4a65c_add_9ea2d_20 : decode cJx4a65c_add_9ea2d 20 = .ok (.invokevirtual 131, 3) := by decide +kernel
theorem dJx4a65c_add_9ea2d_23 : decode cJx4a65c_add_9ea2d 23 = .ok (.iconst 1, 1) := by decide +kernel
theorem dJx4a65c_add_9ea2d_24 : decode cJx4a65c_add_9ea2d 24 = .ok (.ireturn, 1) := by decide +kernel
set_option maxRecDepth 20000 in
theorem ggJ7_copyOf_1904c_J7_copyOf_6403c : GoodIn wsJ7_copyOf_1904c wsJ7_copyOf_6403c := goodIn_r _ [8, 9, 10, 11, 12, 13, 14, 15, 16, 17, 18] (by decide +kernel) (by decide +kernel)
set_option maxRecDepth 20000 in
theorem gJ7_copyOf_1904c_J7_copyOf_6403c : GoodIn wsJ7_copyOf_1904c (va_wsS RJ7 300 yJ7_copyOf_6403c wsJ7_copyOf_6403c) := goodIn_app (goodIn_of _ (by decide +kernel)) ggJ7_copyOf_1904c_J7_copyOf_6403c
theorem dJ7_copyOf_1904c_0 : decode cJ7_copyOf_1904c 0 = .ok (.aload_n 0, 1) := by decide +kernel
theorem dJ7_copyOf_1904c_1 : decode cJ7_copyOf_1904c 1 = .ok (.iload_n 1, 1) := by decide +kernel
theorem dJ7_copyOf_1904c_2 : decode cJ7_copyOf_1904c 2 = .ok (.aload_n 0, 1) := by decide +kernel
theorem dJ7_copyOf_1904c_3 : decode cJ7_copyOf_1904c 3 = .ok (.invokevirtual 86, 3) := by decide +kernel
theorem dJ7_copyOf_1904c_6 : decode cJ7_copyOf_1904c 6 = .ok (.invokestatic 300, 3) := by decide +kernel
theorem dJ7_copyOf_1904c_9 : decode cJ7_copyOf_1904c 9 = .ok (.areturn, 1) := by decide +kernel
theorem dJ7_copyOf_6403c_0 : decode cJ7_copyOf_6403c 0 = .ok (.aload_n 2, 1) := by decide +kernel
theorem dJ7_copyOf_6403c_1 : decode cJ7_copyOf_6403c 1 = .ok (.ldc 110, 2) := by decide +kernel
theorem dJ7_copyOf_6403c_3 : decode cJ7_copyOf_6403c 3 = .ok (.if_acmp .ne 10, 3) := by decide +kernel
theorem dJ7_copyOf_6403c_6 : decode cJ7_copyOf_6403c 6 = .ok (.iload_n 1, 1) := by decide +kernel
theorem dJ7_copyOf_6403c_7 : decode cJ7_copyOf_6403c 7 = .ok (.anewarray 2, 3) := by decide +kernel
theorem dJ7_copyOf_6403c_10 : decode cJ7_copyOf_6403c 10 = .ok (.goto 14, 3) := by decide +kernel
theorem dJ7_copyOf_6403c_13 : decode cJ7_copyOf_6403c 13 = .ok (.aload_n 2, 1) := by decide +kernel
theorem dJ7_copyOf_6403c_14 : decode cJ7_copyOf_6403c 14 = .ok (.invokevirtual 90, 3) := by decide +kernel
theorem dJ7_copyOf_6403c_17 : decode cJ7_copyOf_6403c 17 = .ok (.iload_n 1, 1) := by decide +kernel
theorem dJ7_copyOf_6403c_18 : decode cJ7_copyOf_6403c 18 = .ok (.invokestatic 95, 3) := by decide +kernel
theorem dJ7_copyOf_6403c_21 : decode cJ7_copyOf_6403c 21 = .ok (.checkcast 110, 3) := by decide +kernel
theorem dJ7_copyOf_6403c_24 : decode cJ7_copyOf_6403c 24 = .ok (.astore_n 3, 1) := by decide +kernel
theorem dJ7_copyOf_6403c_25 : decode cJ7_copyOf_6403c 25 = .ok (.aload_n 0, 1) := by decide +kernel
theorem dJ7_copyOf_6403c_26 : decode cJ7_copyOf_6403c 26 = .ok (.iconst 0, 1) := by decide +kernel
theorem dJ7_copyOf_6403c_27 : decode cJ7_copyOf_6403c 27 = .ok (.aload_n 3, 1) := by decide +kernel
theorem dJ7_copyOf_6403c_28 : decode cJ7_copyOf_6403c 28 = .ok (.iconst 0, 1) := by decide +kernel
theorem dJ7_copyOf_6403c_29 : decode cJ7_copyOf_6403c 29 = .ok (.aload_n 0, 1) := by decide +kernel
theorem dJ7_copyOf_6403c_30 : decode cJ7_copyOf_6403c 30 = .ok (.arraylength, 1) := by decide +kernel
theorem dJ7_copyOf_6403c_31 : decode cJ7_copyOf_6403c 31 = .ok (.iload_n 1, 1) := by decide +kernel
theorem dJ7_copyOf_6403c_32 : decode cJ7_copyOf_6403c 32 = .ok (.invokestatic 304, 3) := by decide +kernel
theorem dJ7_copyOf_6403c_35 : decode cJ7_copyOf_6403c 35 = .ok (.invokestatic 150, 3) := by decide +kernel
theorem dJ7_copyOf_6403c_38 : decode cJ7_copyOf_6403c 38 = .ok (.aload_n 3, 1) := by decide +kernel
theorem dJ7_copyOf_6403c_39 : decode cJ7_copyOf_6403c 39 = .ok (.areturn, 1) := by decide +kernel
set_option maxRecDepth 20000 in
theorem ggJ15_checkIndex_7cf53_J3_checkIndex_8e157 : GoodIn wsJ15_checkIndex_7cf53 wsJ3_checkIndex_8e157 := goodIn_r _ [4] (by decide +kernel) (by decide +kernel)
set_option maxRecDepth 20000 in
theorem gJ15_checkIndex_7cf53_J3_checkIndex_8e157 : GoodIn wsJ15_checkIndex_7cf53 (va_wsS RJ15 105 yJ3_checkIndex_8e157 wsJ3_checkIndex_8e157) := goodIn_app (goodIn_of _ (by decide +kernel)) ggJ15_checkIndex_7cf53_J3_checkIndex_8e157
theorem dJ15_checkIndex_7cf53_0 : decode cJ15_checkIndex_7cf53 0 = .ok (.iload_n 0, 1) := by decide +kernel
theorem dJ15_checkIndex_7cf53_1 : decode cJ15_checkIndex_7cf53 1 = .ok (.iload_n 1, 1) := by decide +kernel
theorem dJ15_checkIndex_7cf53_2 : decode cJ15_checkIndex_7cf53 2 = .ok (.aconst_null, 1) := by decide +kernel
theorem dJ15_checkIndex_7cf53_3 : decode cJ15_checkIndex_7cf53 3 = .ok (.invokestatic 105, 3) := by decide +kernel
theorem dJ15_checkIndex_7cf53_6 : decode cJ15_checkIndex_7cf53 6 = .ok (.ireturn, 1) := by decide +kernel
set_option maxRecDepth 20000 in
theorem ggJ8_newLength_cabcc_J8_hugeLength_7cf53 : GoodIn wsJ8_newLength_cabcc wsJ8_hugeLength_7cf53 := goodIn_r _ [9, 5] (by decide +kernel) (by decide +kernel)
set_option maxRecDepth 20000 in
theorem gJ8_newLength_cabcc_J8_hugeLength_7cf53 : GoodIn wsJ8_newLength_cabcc (va_wsS RJ8 201 yJ8_hugeLength_7cf53 wsJ8_hugeLength_7cf53) := goodIn_app (goodIn_of _ (by decide +kernel)) ggJ8_newLength_cabcc_J8_hugeLength_7cf53
theorem dJ8_newLength_cabcc_0 : decode cJ8_newLength_cabcc 0 = .ok (.iload_n 0, 1) := by decide +kernel
theorem dJ8_newLength_cabcc_1 : decode cJ8_newLength_cabcc 1 = .ok (.iload_n 1, 1) := by decide +kernel
theorem dJ8_newLength_cabcc_2 : decode cJ8_newLength_cabcc 2 = .ok (.iload_n 2, 1) := by decide +kernel
theorem dJ8_newLength_cabcc_3 : decode cJ8_newLength_cabcc 3 = .ok (.invokestatic 194, 3) := by decide +kernel
theorem dJ8_newLength_cabcc_6 : decode cJ8_newLength_cabcc 6 = .ok (.iadd, 1) := by decide +kernel
theorem dJ8_newLength_cabcc_7 : decode cJ8_newLength_cabcc 7 = .ok (.istore_n 3, 1) := by decide +kernel
theorem dJ8_newLength_cabcc_8 : decode cJ8_newLength_cabcc 8 = .ok (.iconst 0, 1) := by decide +kernel
theorem dJ8_newLength_cabcc_9 : decode cJ8_newLength_cabcc 9 = .ok (.iload_n 3, 1) := by decide +kernel
theorem dJ8_newLength_cabcc_10 : decode cJ8_newLength_cabcc 10 = .ok (.if_icmp .ge 11, 3) := by decide +kernel
theorem dJ8_newLength_cabcc_13 : decode cJ8_newLength_cabcc 13 = .ok (.iload_n 3, 1) := by decide +kernel
theorem dJ8_newLength_cabcc_14 : decode cJ8_newLength_cabcc 14 = .ok (.ldc 200, 2) := by decide +kernel
theorem dJ8_newLength_cabcc_16 : decode cJ8_newLength_cabcc 16 = .ok (.if_icmp .gt 5, 3) := by decide +kernel
theorem dJ8_newLength_cabcc_19 : decode cJ8_newLength_cabcc 19 = .ok (.iload_n 3, 1) := by decide +kernel
theorem dJ8_newLength_cabcc_20 : decode cJ8_newLength_cabcc 20 = .ok (.ireturn, 1) := by decide +kernel
theorem dJ8_newLength_cabcc_21 : decode cJ8_newLength_cabcc 21 = .ok (.iload_n 0, 1) := by decide +kernel
theorem dJ8_newLength_cabcc_22 : decode cJ8_newLength_cabcc 22 = .ok (.iload_n 1, 1) := by decide +kernel
theorem dJ8_newLength_cabcc_23 : decode cJ8_newLength_cabcc 23 = .ok (.invokestatic 201, 3) := by decide +kernel
theorem dJ8_newLength_cabcc_26 : decode cJ8_newLength_cabcc 26 = .ok (.ireturn, 1) := by decide +kernel
theorem dJ8_hugeLength_7cf53_0 : decode cJ8_hugeLength_7cf53 0 = .ok (.iload_n 0, 1) := by decide +kernel
theorem dJ8_hugeLength_7cf53_1 : decode cJ8_hugeLength_7cf53 1 = .ok (.iload_n 1, 1) := by decide +kernel
theorem dJ8_hugeLength_7cf53_2 : decode cJ8_hugeLength_7cf53 2 = .ok (.iadd, 1) := by decide +kernel
theorem dJ8_hugeLength_7cf53_3 : decode cJ8_hugeLength_7cf53 3 = .ok (.istore_n 2, 1) := by decide +kernel
theorem dJ8_hugeLength_7cf53_4 : decode cJ8_hugeLength_7cf53 4 = .ok (.iload_n 2, 1) := by decide +kernel
theorem dJ8_hugeLength_7cf53_5 : decode cJ8_hugeLength_7cf53 5 = .ok (.ifCond .ge 44, 3) := by decide +kernel
theorem dJ8_hugeLength_7cf53_8 : decode cJ8_hugeLength_7cf53 8 = .ok (.new 204, 3) := by decide +kernel
theorem dJ8_hugeLength_7cf53_11 : decode cJ8_hugeLength_7cf53 11 = .ok (.dup, 1) := by decide +kernel
theorem dJ8_hugeLength_7cf53_12 : decode cJ8_hugeLength_7cf53 12 = .ok (.new 89, 3) := by decide +kernel
theorem dJ8_hugeLength_7cf53_15 : decode cJ8_hugeLength_7cf53 15 = .ok (.dup, 1) := by decide +kernel
theorem dJ8_hugeLength_7cf53_16 : decode cJ8_hugeLength_7cf53 16 = .ok (.invokespecial 91, 3) := by decide +kernel
theorem dJ8_hugeLength_7cf53_19 : decode cJ8_hugeLength_7cf53 19 = .ok (.ldc 206, 2) := by decide +kernel
theorem dJ8_hugeLength_7cf53_21 : decode cJ8_hugeLength_7cf53 21 = .ok (.invokevirtual 94, 3) := by decide +kernel
theorem dJ8_hugeLength_7cf53_24 : decode cJ8_hugeLength_7cf53 24 = .ok (.iload_n 0, 1) := by decide +kernel
theorem dJ8_hugeLength_7cf53_25 : decode cJ8_hugeLength_7cf53 25 = .ok (.invokevirtual 98, 3) := by decide +kernel
theorem dJ8_hugeLength_7cf53_28 : decode cJ8_hugeLength_7cf53 28 = .ok (.ldc 208, 2) := by decide +kernel
theorem dJ8_hugeLength_7cf53_30 : decode cJ8_hugeLength_7cf53 30 = .ok (.invokevirtual 94, 3) := by decide +kernel
theorem dJ8_hugeLength_7cf53_33 : decode cJ8_hugeLength_7cf53 33 = .ok (.iload_n 1, 1) := by decide +kernel
theorem dJ8_hugeLength_7cf53_34 : decode cJ8_hugeLength_7cf53 34 = .ok (.invokevirtual 98, 3) := by decide +kernel
theorem dJ8_hugeLength_7cf53_37 : decode cJ8_hugeLength_7cf53 37 = .ok (.ldc 210, 2) := by decide +kernel
theorem dJ8_hugeLength_7cf53_39 : decode cJ8_hugeLength_7cf53 39 = .ok (.invokevirtual 94, 3) := by decide +kernel
theorem dJ8_hugeLength_7cf53_42 : decode cJ8_hugeLength_7cf53 42 = .ok (.invokevirtual 101, 3) := by decide +kernel
theorem dJ8_hugeLength_7cf53_45 : decode cJ8_hugeLength_7cf53 45 = .ok (.invokespecial 212, 3) := by decide +kernel
theorem dJ8_hugeLength_7cf53_48 : decode cJ8_hugeLength_7cf53 48 = .ok (.athrow, 1) := by decide +kernel
theorem dJ8_hugeLength_7cf53_49 : decode cJ8_hugeLength_7cf53 49 = .ok (.iload_n 2, 1) := by decide +kernel
theorem dJ8_hugeLength_7cf53_50 : decode cJ8_hugeLength_7cf53 50 = .ok (.ldc 200, 2) := by decide +kernel
theorem dJ8_hugeLength_7cf53_52 : decode cJ8_hugeLength_7cf53 52 = .ok (.if_icmp .gt 6, 3) := by decide +kernel
theorem dJ8_hugeLength_7cf53_55 : decode cJ8_hugeLength_7cf53 55 = .ok (.ldc 200, 2) := by decide +kernel
theorem dJ8_hugeLength_7cf53_57 : decode cJ8_hugeLength_7cf53 57 = .ok (.ireturn, 1) := by decide +kernel
theorem dJ8_hugeLength_7cf53_58 : decode cJ8_hugeLength_7cf53 58 = .ok (.iload_n 2, 1) := by decide +kernel
theorem dJ8_hugeLength_7cf53_59 : decode cJ8_hugeLength_7cf53 59 = .ok (.ireturn, 1) := by decide +kernel
theorem dJ3_checkIndex_8e157_0 : decode cJ3_checkIndex_8e157 0 = .ok (.iload_n 0, 1) := by decide +kernel
theorem dJ3_checkIndex_8e157_1 : decode cJ3_checkIndex_8e157 1 = .ok (.ifCond .lt 8, 3) := by decide +kernel
theorem dJ3_checkIndex_8e157_4 : decode cJ3_checkIndex_8e157 4 = .ok (.iload_n 0, 1) := by decide +kernel
theorem dJ3_checkIndex_8e157_5 : decode cJ3_checkIndex_8e157 5 = .ok (.iload_n 1, 1) := by decide +kernel
theorem dJ3_checkIndex_8e157_6 : decode cJ3_checkIndex_8e157 6 = .ok (.if_icmp .lt 10, 3) := by decide +kernel
theorem dJ3_checkIndex_8e157_9 : decode cJ3_checkIndex_8e157 9 = .ok (.aload_n 2, 1) := by decide +kernel
theorem dJ3_checkIndex_8e157_10 : decode cJ3_checkIndex_8e157 10 = .ok (.iload_n 0, 1) := by decide +kernel
theorem dJ3_checkIndex_8e157_11 : decode cJ3_checkIndex_8e157 11 = .ok (.iload_n 1, 1) := by decide +kernel
theorem dJ3_checkIndex_8e157_12 : decode cJ3_checkIndex_8e157 12 = .ok (.invokestatic 95, 3) := by decide +kernel
theorem dJ3_checkIndex_8e157_15 : decode cJ3_checkIndex_8e157 15 = .ok (.athrow, 1) := by decide +kernel
theorem dJ3_checkIndex_8e157_16 : decode cJ3_checkIndex_8e157 16 = .ok (.iload_n 0, 1) := by decide +kernel
theorem dJ3_checkIndex_8e157_17 : decode cJ3_checkIndex_8e157 17 = .ok (.ireturn, 1) := by decide +kernel
set_option maxRecDepth 20000 in
theorem ggL_addLamp_X1_addLamp : GoodIn wsL_addLamp wsX1_addLamp := goodIn_ca (goodIn_ca (goodIn_r _ [7, 8, 9, 10, 11, 12, 13, 14, 15, 6, 16, 17, 18, 19, 20, 21, 22, 23, 24, 25, 26, 27, 28, 29, 30, 31, 32, 33, 34, 35, 36, 37, 38, 39, 40, 41, 42, 43, 44, 45, 46, 47, 48, 49, 50, 51, 52, 53, 54, 55, 56, 57, 58, 59, 60, 61, 62, 63, 64, 65, 66, 67, 68, 69, 70, 71, 72, 73, 74, 75, 76, 77, 78, 79, 80, 81, 82, 83, 84, 85, 86, 87, 88, 89, 90, 91, 92, 93, 94, 95, 96, 97, 98, 99, 100, 101, 102, 103, 104, 105, 106, 107, 108] (by decide +kernel) (by decide +kernel)) (goodIn_sub (fun _ h => List.mem_cons_of_mem _ (List.mem_append_left _ (List.mem_append_right _ h))) (by decide +kernel))) (goodIn_sub (fun _ h => List.mem_cons_of_mem _ (List.mem_append_right _ h)) (by decide +kernel))
set_option maxRecDepth 20000 in
theorem gL_addLamp_X1_addLamp : GoodIn wsL_addLamp (wsV RL 7 RX1 yX1_addLamp wsX1_addLamp) := goodIn_app (goodIn_of _ (by decide +kernel)) ggL_addLamp_X1_addLamp
theorem dL_addLamp_0 : decode cL_addLamp 0 = .ok (.aload 5, 2) := by decide +kernel
theorem dL_addLamp_2 : decode cL_addLamp 2 = .ok (.iconst 0, 1) := by decide +kernel
theorem dL_addLamp_3 : decode cL_addLamp 3 = .ok (.aload_n 0, 1) := by decide +kernel
theorem dL_addLamp_4 : decode cL_addLamp 4 = .ok (.iload_n 1, 1) := by decide +kernel
theorem dL_addLamp_5 : decode cL_addLamp 5 = .ok (.iload_n 2, 1) := by decide +kernel
theorem dL_addLamp_6 : decode cL_addLamp 6 = .ok (.iload_n 3, 1) := by decide +kernel
theorem dL_addLamp_7 : decode cL_addLamp 7 = .ok (.iload 4, 2) := by decide +kernel
theorem dL_addLamp_9 : decode cL_addLamp 9 = .ok (.invokevirtual 7, 3) := by decide +kernel
theorem dL_addLamp_12 : decode cL_addLamp 12 = .ok (.i2l, 1) := by decide +kernel
theorem dL_addLamp_13 : decode cL_addLamp 13 = .ok (.lastore, 1) := by decide +kernel
theorem dL_addLamp_14 : decode cL_addLamp 14 = .ok (.goto 11, 3) := by decide +kernel
theorem dL_addLamp_17 : decode cL_addLamp 17 = .ok (.astore 6, 2) := by decide +kernel
theorem dL_addLamp_19 : decode cL_addLamp 19 = .ok (.iconst 1, 1) := by decide +kernel
theorem dL_addLamp_20 : decode cL_addLamp 20 = .ok (.ireturn, 1) := by decide +kernel
theorem dL_addLamp_21 : decode cL_addLamp 21 = .ok (.astore 6, 2) := by decide +kernel
theorem dL_addLamp_23 : decode cL_addLamp 23 = .ok (.iconst 2, 1) := by decide +kernel
theorem dL_addLamp_24 : decode cL_addLamp 24 = .ok (.ireturn, 1) := by decide +kernel
theorem dL_addLamp_25 : decode cL_addLamp 25 = .ok (.iconst 0, 1) := by decide +kernel
theorem dL_addLamp_26 : decode cL_addLamp 26 = .ok (.ireturn, 1) := by decide +kernel
set_option maxRecDepth 20000 in
theorem ggL_setShift_X1_setShift : GoodIn wsL_setShift wsX1_setShift := goodIn_ca (goodIn_ca (goodIn_r _ [7, 8, 9, 10, 11, 12, 6, 13, 14, 15, 16, 17, 18, 19, 20, 21, 22, 23, 24, 25, 26, 27, 28, 29, 30, 31, 32, 33, 34, 35, 36, 37, 38, 39, 40, 41, 42, 43, 44, 45, 46, 47, 48, 49, 50, 51, 52, 53, 54, 55, 56, 57, 58, 59, 60] (by decide +kernel) (by decide +kernel)) (goodIn_sub (fun _ h => List.mem_cons_of_mem _ (List.mem_append_left _ (List.mem_append_right _ h))) (by decide +kernel))) (goodIn_sub (fun _ h => List.mem_cons_of_mem _ (List.mem_append_right _ h)) (by decide +kernel))
set_option maxRecDepth 20000 in
theorem gL_setShift_X1_setShift : GoodIn wsL_setShift (wsV RL 17 RX1 yX1_setShift wsX1_setShift) := goodIn_app (goodIn_of _ (by decide +kernel)) ggL_setShift_X1_setShift
theorem dL_setShift_0 : decode cL_setShift 0 = .ok (.aload_n 3, 1) := by decide +kernel
theorem dL_setShift_1 : decode cL_setShift 1 = .ok (.iconst 0, 1) := by decide +kernel
theorem dL_setShift_2 : decode cL_setShift 2 = .ok (.aload_n 0, 1) := by decide +kernel
theorem dL_setShift_3 : decode cL_setShift 3 = .ok (.iload_n 1, 1) := by decide +kernel
theorem dL_setShift_4 : decode cL_setShift 4 = .ok (.iload_n 2, 1) := by decide +kernel
theorem dL_setShift_5 : decode cL_setShift 5 = .ok (.invokevirtual 17, 3) := by decide +kernel
theorem dL_setShift_8 : decode cL_setShift 8 = .ok (.i2l, 1) := by decide +kernel
theorem dL_setShift_9 : decode cL_setShift 9 = .ok (.lastore, 1) := by decide +kernel
theorem dL_setShift_10 : decode cL_setShift 10 = .ok (.goto 11, 3) := by decide +kernel
theorem dL_setShift_13 : decode cL_setShift 13 = .ok (.astore 4, 2) := by decide +kernel
theorem dL_setShift_15 : decode cL_setShift 15 = .ok (.iconst 1, 1) := by decide +kernel
theorem dL_setShift_16 : decode cL_setShift 16 = .ok (.ireturn, 1) := by decide +kernel
theorem dL_setShift_17 : decode cL_setShift 17 = .ok (.astore 4, 2) := by decide +kernel
theorem dL_setShift_19 : decode cL_setShift 19 = .ok (.iconst 2, 1) := by decide +kernel
theorem dL_setShift_20 : decode cL_setShift 20 = .ok (.ireturn, 1) := by decide +kernel
theorem dL_setShift_21 : decode cL_setShift 21 = .ok (.iconst 0, 1) := by decide +kernel
theorem dL_setShift_22 : decode cL_setShift 22 = .ok (.ireturn, 1) := by decide +kernel
set_option maxRecDepth 20000 in
theorem ggL_setLength_X1_setLength : GoodIn wsL_setLength wsX1_setLength := goodIn_ca (goodIn_ca (goodIn_r _ [7, 8, 9, 10, 11, 12, 6, 13, 14, 15, 16, 17, 18, 19, 20, 21, 22, 23, 24, 25, 26, 27, 28, 29, 30, 31, 32, 33, 34, 35, 36, 37, 38, 39, 40, 41, 42, 43, 44, 45, 46, 47, 48, 49, 50, 51, 52, 53, 54, 55, 56, 57, 58, 59, 60] (by decide +kernel) (by decide +kernel)) (goodIn_sub (fun _ h => List.mem_cons_of_mem _ (List.mem_append_left _ (List.mem_append_right _ h))) (by decide +kernel))) (goodIn_sub (fun _ h => List.mem_cons_of_mem _ (List.mem_append_right _ h)) (by decide +kernel))
set_option maxRecDepth 20000 in
theorem gL_setLength_X1_setLength : GoodIn wsL_setLength (wsV RL 23 RX1 yX1_setLength wsX1_setLength) := goodIn_app (goodIn_of _ (by decide +kernel)) ggL_setLength_X1_setLength
theorem dL_setLength_0 : decode cL_setLength 0 = .ok (.aload_n 3, 1) := by decide +kernel
theorem dL_setLength_1 : decode cL_setLength 1 = .ok (.iconst 0, 1) := by decide +kernel
theorem dL_setLength_2 : decode cL_setLength 2 = .ok (.aload_n 0, 1) := by decide +kernel
theorem dL_setLength_3 : decode cL_setLength 3 = .ok (.iload_n 1, 1) := by decide +kernel
theorem dL_setLength_4 : decode cL_setLength 4 = .ok (.iload_n 2, 1) := by decide +kernel
theorem dL_setLength_5 : decode cL_setLength 5 = .ok (.invokevirtual 23, 3) := by decide +kernel
theorem dL_setLength_8 : decode cL_setLength 8 = .ok (.i2l, 1) := by decide +kernel
theorem dL_setLength_9 : decode cL_setLength 9 = .ok (.lastore, 1) := by decide +kernel
theorem dL_setLength_10 : decode cL_setLength 10 = .ok (.goto 11, 3) := by decide +kernel
theorem dL_setLength_13 : decode cL_setLength 13 = .ok (.astore 4, 2) := by decide +kernel
theorem dL_setLength_15 : decode cL_setLength 15 = .ok (.iconst 1, 1) := by decide +kernel
theorem dL_setLength_16 : decode cL_setLength 16 = .ok (.ireturn, 1) := by decide +kernel
theorem dL_setLength_17 : decode cL_setLength 17 = .ok (.astore 4, 2) := by decide +kernel
theorem dL_setLength_19 : decode cL_setLength 19 = .ok (.iconst 2, 1) := by decide +kernel
theorem dL_setLength_20 : decode cL_setLength 20 = .ok (.ireturn, 1) := by decide +kernel
theorem dL_setLength_21 : decode cL_setLength 21 = .ok (.iconst 0, 1) := by decide +kernel
theorem dL_setLength_22 : decode cL_setLength 22 = .ok (.ireturn, 1) := by decide +kernel
set_option maxRecDepth 20000 in
theorem ggL_swapColours_X1_swapColours : GoodIn wsL_swapColours wsX1_swapColours := goodIn_ca (goodIn_ca (goodIn_r _ [7, 8, 9, 10, 11, 12, 13, 6, 14, 15, 16, 17, 18, 19, 20, 21, 22, 23, 24, 25, 26, 27, 28, 29, 30, 31, 32, 33, 34, 35, 36, 37, 38, 39, 40, 41, 42, 43, 44, 45, 46, 47, 48, 49, 50, 51, 52, 53, 54, 55, 56] (by decide +kernel) (by decide +kernel)) (goodIn_sub (fun _ h => List.mem_cons_of_mem _ (List.mem_append_left _ (List.mem_append_right _ h))) (by decide +kernel))) (goodIn_sub (fun _ h => List.mem_cons_of_mem _ (List.mem_append_right _ h)) (by decide +kernel))
set_option maxRecDepth 20000 in
theorem gL_swapColours_X1_swapColours : GoodIn wsL_swapColours (wsV RL 26 RX1 yX1_swapColours wsX1_swapColours) := goodIn_app (goodIn_of _ (by decide +kernel)) ggL_swapColours_X1_swapColours
theorem dL_swapColours_0 : decode cL_swapColours 0 = .ok (.aload_n 3, 1) := by decide +kernel
theorem dL_swapColours_1 : decode cL_swapColours 1 = .ok (.iconst 0, 1) := by decide +kernel
theorem dL_swapColours_2 : decode cL_swapColours 2 = .ok (.aload_n 0, 1) := by decide +kernel
theorem dL_swapColours_3 : decode cL_swapColours 3 = .ok (.iload_n 1, 1) := by decide +kernel
theorem dL_swapColours_4 : decode cL_swapColours 4 = .ok (.iload_n 2, 1) := by decide +kernel
theorem dL_swapColours_5 : decode cL_swapColours 5 = .ok (.invokevirtual 26, 3) := by decide +kernel
theorem dL_swapColours_8 : decode cL_swapColours 8 = .ok (.ifCond .eq 7, 3) := by decide +kernel
theorem dL_swapColours_11 : decode cL_swapColours 11 = .ok (.lconst 1, 1) := by decide +kernel
theorem dL_swapColours_12 : decode cL_swapColours 12 = .ok (.goto 4, 3) := by decide +kernel
theorem dL_swapColours_15 : decode cL_swapColours 15 = .ok (.lconst 0, 1) := by decide +kernel
theorem dL_swapColours_16 : decode cL_swapColours 16 = .ok (.lastore, 1) := by decide +kernel
theorem dL_swapColours_17 : decode cL_swapColours 17 = .ok (.goto 11, 3) := by decide +kernel
theorem dL_swapColours_20 : decode cL_swapColours 20 = .ok (.astore 4, 2) := by decide +kernel
theorem dL_swapColours_22 : decode cL_swapColours 22 = .ok (.iconst 1, 1) := by decide +kernel
theorem dL_swapColours_23 : decode cL_swapColours 23 = .ok (.ireturn, 1) := by decide +kernel
theorem dL_swapColours_24 : decode cL_swapColours 24 = .ok (.astore 4, 2) := by decide +kernel
theorem dL_swapColours_26 : decode cL_swapColours 26 = .ok (.iconst 2, 1) := by decide +kernel
theorem dL_swapColours_27 : decode cL_swapColours 27 = .ok (.ireturn, 1) := by decide +kernel
theorem dL_swapColours_28 : decode cL_swapColours 28 = .ok (.iconst 0, 1) := by decide +kernel
theorem dL_swapColours_29 : decode cL_swapColours 29 = .ok (.ireturn, 1) := by decide +kernel
set_option maxRecDepth 20000 in
theorem ggL_setLimit_X1_setLimit : GoodIn wsL_setLimit wsX1_setLimit := goodIn_ca (goodIn_r _ [6, 7, 8, 9, 5, 10, 11, 12, 13, 14, 15] (by decide +kernel) (by decide +kernel)) (goodIn_sub (fun _ h => List.mem_cons_of_mem _ (List.mem_append_right _ h)) (by decide +kernel))
set_option maxRecDepth 20000 in
theorem gL_setLimit_X1_setLimit : GoodIn wsL_setLimit (wsV RL 30 RX1 yX1_setLimit wsX1_setLimit) := goodIn_app (goodIn_of _ (by decide +kernel)) ggL_setLimit_X1_setLimit
theorem dL_setLimit_0 : decode cL_setLimit 0 = .ok (.aload_n 2, 1) := by decide +kernel
theorem dL_setLimit_1 : decode cL_setLimit 1 = .ok (.iconst 0, 1) := by decide +kernel
theorem dL_setLimit_2 : decode cL_setLimit 2 = .ok (.aload_n 0, 1) := by decide +kernel
theorem dL_setLimit_3 : decode cL_setLimit 3 = .ok (.iload_n 1, 1) := by decide +kernel
theorem dL_setLimit_4 : decode cL_setLimit 4 = .ok (.invokevirtual 30, 3) := by decide +kernel
theorem dL_setLimit_7 : decode cL_setLimit 7 = .ok (.i2l, 1) := by decide +kernel
theorem dL_setLimit_8 : decode cL_setLimit 8 = .ok (.lastore, 1) := by decide +kernel
theorem dL_setLimit_9 : decode cL_setLimit 9 = .ok (.goto 6, 3) := by decide +kernel
theorem dL_setLimit_12 : decode cL_setLimit 12 = .ok (.astore_n 3, 1) := by decide +kernel
theorem dL_setLimit_13 : decode cL_setLimit 13 = .ok (.iconst 1, 1) := by decide +kernel
theorem dL_setLimit_14 : decode cL_setLimit 14 = .ok (.ireturn, 1) := by decide +kernel
theorem dL_setLimit_15 : decode cL_setLimit 15 = .ok (.iconst 0, 1) := by decide +kernel
theorem dL_setLimit_16 : decode cL_setLimit 16 = .ok (.ireturn, 1) := by decide +kernel
set_option maxRecDepth 20000 in
theorem ggL_pass_X1_pass : GoodIn wsL_pass wsX1_pass := goodIn_ca (goodIn_r _ [6, 7, 8, 5, 9, 10, 11, 12, 13, 14, 15, 16, 17, 18, 19, 20, 21, 22, 23, 24, 25, 26, 27, 28, 29, 30, 31, 32, 33, 34, 35, 36, 37, 38, 39, 40, 41, 42, 43, 44, 45, 46, 47, 48, 49, 50, 51, 52, 53, 54, 55, 56, 57, 58, 59, 60, 61, 62, 63, 64, 65, 66, 67, 68, 69, 70, 71, 72, 73, 74, 75, 76, 77] (by decide +kernel) (by decide +kernel)) (goodIn_sub (fun _ h => List.mem_cons_of_mem _ (List.mem_append_right _ h)) (by decide +kernel))
set_option maxRecDepth 20000 in
theorem gL_pass_X1_pass : GoodIn wsL_pass (wsV RL 34 RX1 yX1_pass wsX1_pass) := goodIn_app (goodIn_of _ (by decide +kernel)) ggL_pass_X1_pass
theorem dL_pass_0 : decode cL_pass 0 = .ok (.aload_n 2, 1) := by decide +kernel
theorem dL_pass_1 : decode cL_pass 1 = .ok (.iconst 0, 1) := by decide +kernel
theorem dL_pass_2 : decode cL_pass 2 = .ok (.aload_n 0, 1) := by decide +kernel
theorem dL_pass_3 : decode cL_pass 3 = .ok (.iload_n 1, 1) := by decide +kernel
theorem dL_pass_4 : decode cL_pass 4 = .ok (.invokevirtual 34, 3) := by decide +kernel
theorem dL_pass_7 : decode cL_pass 7 = .ok (.i2l, 1) := by decide +kernel
theorem dL_pass_8 : decode cL_pass 8 = .ok (.lastore, 1) := by decide +kernel
theorem dL_pass_9 : decode cL_pass 9 = .ok (.goto 6, 3) := by decide +kernel
theorem dL_pass_12 : decode cL_pass 12 = .ok (.astore_n 3, 1) := by decide +kernel
theorem dL_pass_13 : decode cL_pass 13 = .ok (.iconst 1, 1) := by decide +kernel
theorem dL_pass_14 : decode cL_pass 14 = .ok (.ireturn, 1) := by decide +kernel
theorem dL_pass_15 : decode cL_pass 15 = .ok (.iconst 0, 1) := by decide +kernel
theorem dL_pass_16 : decode cL_pass 16 = .ok (.ireturn, 1) := by decide +kernel
set_option maxRecDepth 20000 in
theorem ggL_phaseOf_X1_phaseOf : GoodIn wsL_phaseOf wsX1_phaseOf := goodIn_ca (goodIn_r _ [6, 7, 8, 9, 10, 5, 11, 12, 13, 14, 15, 16, 17, 18, 19, 20, 21, 22, 23, 24, 25, 26, 27, 28, 29, 30, 31, 32, 33, 34, 35, 36, 37, 38, 39, 40, 41, 42, 43, 44, 45, 46, 47, 48, 49, 50, 51, 52, 53, 54, 55, 56, 57, 58, 59, 60] (by decide +kernel) (by decide +kernel)) (goodIn_sub (fun _ h => List.mem_cons_of_mem _ (List.mem_append_right _ h)) (by decide +kernel))
set_option maxRecDepth 20000 in
theorem gL_phaseOf_X1_phaseOf : GoodIn wsL_phaseOf (wsV RL 37 RX1 yX1_phaseOf wsX1_phaseOf) := goodIn_app (goodIn_of _ (by decide +kernel)) ggL_phaseOf_X1_phaseOf
theorem dL_phaseOf_0 : decode cL_phaseOf 0 = .ok (.aload_n 2, 1) := by decide +kernel
theorem dL_phaseOf_1 : decode cL_phaseOf 1 = .ok (.iconst 0, 1) := by decide +kernel
theorem dL_phaseOf_2 : decode cL_phaseOf 2 = .ok (.aload_n 0, 1) := by decide +kernel
theorem dL_phaseOf_3 : decode cL_phaseOf 3 = .ok (.iload_n 1, 1) := by decide +kernel
theorem dL_phaseOf_4 : decode cL_phaseOf 4 = .ok (.invokevirtual 37, 3) := by decide +kernel
theorem dL_phaseOf_7 : decode cL_phaseOf 7 = .ok (.i2l, 1) := by decide +kernel
theorem dL_phaseOf_8 : decode cL_phaseOf 8 = .ok (.lastore, 1) := by decide +kernel
theorem dL_phaseOf_9 : decode cL_phaseOf 9 = .ok (.goto 6, 3) := by decide +kernel
theorem dL_phaseOf_12 : decode cL_phaseOf 12 = .ok (.astore_n 3, 1) := by decide +kernel
theorem dL_phaseOf_13 : decode cL_phaseOf 13 = .ok (.iconst 1, 1) := by decide +kernel
theorem dL_phaseOf_14 : decode cL_phaseOf 14 = .ok (.ireturn, 1) := by decide +kernel
theorem dL_phaseOf_15 : decode cL_phaseOf 15 = .ok (.iconst 0, 1) := by decide +kernel
theorem dL_phaseOf_16 : decode cL_phaseOf 16 = .ok (.ireturn, 1) := by decide +kernel
set_option maxRecDepth 20000 in
theorem ggL_isDue_X1_isDue : GoodIn wsL_isDue wsX1_isDue := goodIn_ca (goodIn_r _ [6, 7, 8, 9, 10, 5, 11, 12, 13, 14, 15, 16, 17, 18, 19, 20, 21, 22, 23, 24, 25, 26, 27, 28, 29, 30, 31, 32, 33, 34, 35, 36, 37, 38, 39, 40, 41, 42, 43, 44, 45, 46, 47, 48, 49, 50, 51, 52, 53, 54, 55, 56, 57, 58, 59, 60, 61, 62, 63, 64, 65] (by decide +kernel) (by decide +kernel)) (goodIn_sub (fun _ h => List.mem_cons_of_mem _ (List.mem_append_right _ h)) (by decide +kernel))
set_option maxRecDepth 20000 in
theorem gL_isDue_X1_isDue : GoodIn wsL_isDue (wsV RL 40 RX1 yX1_isDue wsX1_isDue) := goodIn_app (goodIn_of _ (by decide +kernel)) ggL_isDue_X1_isDue
theorem dL_isDue_0 : decode cL_isDue 0 = .ok (.aload_n 2, 1) := by decide +kernel
theorem dL_isDue_1 : decode cL_isDue 1 = .ok (.iconst 0, 1) := by decide +kernel
theorem dL_isDue_2 : decode cL_isDue 2 = .ok (.aload_n 0, 1) := by decide +kernel
theorem dL_isDue_3 : decode cL_isDue 3 = .ok (.iload_n 1, 1) := by decide +kernel
theorem dL_isDue_4 : decode cL_isDue 4 = .ok (.invokevirtual 40, 3) := by decide +kernel
theorem dL_isDue_7 : decode cL_isDue 7 = .ok (.ifCond .eq 7, 3) := by decide +kernel
theorem dL_isDue_10 : decode cL_isDue 10 = .ok (.lconst 1, 1) := by decide +kernel
theorem dL_isDue_11 : decode cL_isDue 11 = .ok (.goto 4, 3) := by decide +kernel
theorem dL_isDue_14 : decode cL_isDue 14 = .ok (.lconst 0, 1) := by decide +kernel
theorem dL_isDue_15 : decode cL_isDue 15 = .ok (.lastore, 1) := by decide +kernel
theorem dL_isDue_16 : decode cL_isDue 16 = .ok (.goto 6, 3) := by decide +kernel
theorem dL_isDue_19 : decode cL_isDue 19 = .ok (.astore_n 3, 1) := by decide +kernel
theorem dL_isDue_20 : decode cL_isDue 20 = .ok (.iconst 1, 1) := by decide +kernel
theorem dL_isDue_21 : decode cL_isDue 21 = .ok (.ireturn, 1) := by decide +kernel
theorem dL_isDue_22 : decode cL_isDue 22 = .ok (.iconst 0, 1) := by decide +kernel
theorem dL_isDue_23 : decode cL_isDue 23 = .ok (.ireturn, 1) := by decide +kernel
set_option maxRecDepth 20000 in
theorem ggL_shines_X1_shines : GoodIn wsL_shines wsX1_shines := goodIn_ca (goodIn_r _ [6, 7, 8, 9, 10, 11, 5, 12, 13, 14, 15, 16, 17, 18, 19, 20, 21, 22, 23, 24, 25, 26, 27, 28, 29, 30, 31, 32, 33, 34, 35, 36, 37, 38, 39, 40, 41, 42, 43, 44, 45, 46, 47, 48, 49, 50, 51, 52, 53, 54, 55, 56, 57, 58, 59, 60, 61, 62, 63, 64, 65, 66, 67, 68, 69, 70, 71, 72] (by decide +kernel) (by decide +kernel)) (goodIn_sub (fun _ h => List.mem_cons_of_mem _ (List.mem_append_right _ h)) (by decide +kernel))
set_option maxRecDepth 20000 in
theorem gL_shines_X1_shines : GoodIn wsL_shines (wsV RL 44 RX1 yX1_shines wsX1_shines) := goodIn_app (goodIn_of _ (by decide +kernel)) ggL_shines_X1_shines
theorem dL_shines_0 : decode cL_shines 0 = .ok (.aload_n 2, 1) := by decide +kernel
theorem dL_shines_1 : decode cL_shines 1 = .ok (.iconst 0, 1) := by decide +kernel
theorem dL_shines_2 : decode cL_shines 2 = .ok (.aload_n 0, 1) := by decide +kernel
theorem dL_shines_3 : decode cL_shines 3 = .ok (.iload_n 1, 1) := by decide +kernel
theorem dL_shines_4 : decode cL_shines 4 = .ok (.invokevirtual 44, 3) := by decide +kernel
theorem dL_shines_7 : decode cL_shines 7 = .ok (.ifCond .eq 7, 3) := by decide +kernel
theorem dL_shines_10 : decode cL_shines 10 = .ok (.lconst 1, 1) := by decide +kernel
theorem dL_shines_11 : decode cL_shines 11 = .ok (.goto 4, 3) := by decide +kernel
theorem dL_shines_14 : decode cL_shines 14 = .ok (.lconst 0, 1) := by decide +kernel
theorem dL_shines_15 : decode cL_shines 15 = .ok (.lastore, 1) := by decide +kernel
theorem dL_shines_16 : decode cL_shines 16 = .ok (.goto 6, 3) := by decide +kernel
theorem dL_shines_19 : decode cL_shines 19 = .ok (.astore_n 3, 1) := by decide +kernel
theorem dL_shines_20 : decode cL_shines 20 = .ok (.iconst 1, 1) := by decide +kernel
theorem dL_shines_21 : decode cL_shines 21 = .ok (.ireturn, 1) := by decide +kernel
theorem dL_shines_22 : decode cL_shines 22 = .ok (.iconst 0, 1) := by decide +kernel
theorem dL_shines_23 : decode cL_shines 23 = .ok (.ireturn, 1) := by decide +kernel
set_option maxRecDepth 20000 in
theorem ggL_colourOf_X1_colourOf : GoodIn wsL_colourOf wsX1_colourOf := goodIn_ca (goodIn_r _ [6, 7, 8, 9, 10, 5, 11, 12, 13, 14, 15, 16, 17, 18, 19, 20, 21, 22, 23, 24, 25, 26, 27, 28, 29, 30, 31, 32, 33, 34, 35, 36, 37, 38, 39, 40, 41, 42, 43, 44, 45, 46, 47, 48, 49, 50, 51, 52, 53] (by decide +kernel) (by decide +kernel)) (goodIn_sub (fun _ h => List.mem_cons_of_mem _ (List.mem_append_right _ h)) (by decide +kernel))
set_option maxRecDepth 20000 in
theorem gL_colourOf_X1_colourOf : GoodIn wsL_colourOf (wsV RL 47 RX1 yX1_colourOf wsX1_colourOf) := goodIn_app (goodIn_of _ (by decide +kernel)) ggL_colourOf_X1_colourOf
theorem dL_colourOf_0 : decode cL_colourOf 0 = .ok (.aload_n 2, 1) := by decide +kernel
theorem dL_colourOf_1 : decode cL_colourOf 1 = .ok (.iconst 0, 1) := by decide +kernel
theorem dL_colourOf_2 : decode cL_colourOf 2 = .ok (.aload_n 0, 1) := by decide +kernel
theorem dL_colourOf_3 : decode cL_colourOf 3 = .ok (.iload_n 1, 1) := by decide +kernel
theorem dL_colourOf_4 : decode cL_colourOf 4 = .ok (.invokevirtual 47, 3) := by decide +kernel
theorem dL_colourOf_7 : decode cL_colourOf 7 = .ok (.i2l, 1) := by decide +kernel
theorem dL_colourOf_8 : decode cL_colourOf 8 = .ok (.lastore, 1) := by decide +kernel
theorem dL_colourOf_9 : decode cL_colourOf 9 = .ok (.goto 6, 3) := by decide +kernel
theorem dL_colourOf_12 : decode cL_colourOf 12 = .ok (.astore_n 3, 1) := by decide +kernel
theorem dL_colourOf_13 : decode cL_colourOf 13 = .ok (.iconst 1, 1) := by decide +kernel
theorem dL_colourOf_14 : decode cL_colourOf 14 = .ok (.ireturn, 1) := by decide +kernel
theorem dL_colourOf_15 : decode cL_colourOf 15 = .ok (.iconst 0, 1) := by decide +kernel
theorem dL_colourOf_16 : decode cL_colourOf 16 = .ok (.ireturn, 1) := by decide +kernel
set_option maxRecDepth 20000 in
theorem ggL_shiftOf_X1_shiftOf : GoodIn wsL_shiftOf wsX1_shiftOf := goodIn_ca (goodIn_r _ [6, 7, 8, 9, 10, 5, 11, 12, 13, 14, 15, 16, 17, 18, 19, 20, 21, 22, 23, 24, 25, 26, 27, 28, 29, 30, 31, 32, 33, 34, 35, 36, 37, 38, 39, 40, 41, 42, 43, 44, 45, 46, 47, 48, 49, 50, 51, 52, 53] (by decide +kernel) (by decide +kernel)) (goodIn_sub (fun _ h => List.mem_cons_of_mem _ (List.mem_append_right _ h)) (by decide +kernel))
set_option maxRecDepth 20000 in
theorem gL_shiftOf_X1_shiftOf : GoodIn wsL_shiftOf (wsV RL 50 RX1 yX1_shiftOf wsX1_shiftOf) := goodIn_app (goodIn_of _ (by decide +kernel)) ggL_shiftOf_X1_shiftOf
theorem dL_shiftOf_0 : decode cL_shiftOf 0 = .ok (.aload_n 2, 1) := by decide +kernel
theorem dL_shiftOf_1 : decode cL_shiftOf 1 = .ok (.iconst 0, 1) := by decide +kernel
theorem dL_shiftOf_2 : decode cL_shiftOf 2 = .ok (.aload_n 0, 1) := by decide +kernel
theorem dL_shiftOf_3 : decode cL_shiftOf 3 = .ok (.iload_n 1, 1) := by decide +kernel
theorem dL_shiftOf_4 : decode cL_shiftOf 4 = .ok (.invokevirtual 50, 3) := by decide +kernel
theorem dL_shiftOf_7 : decode cL_shiftOf 7 = .ok (.i2l, 1) := by decide +kernel
theorem dL_shiftOf_8 : decode cL_shiftOf 8 = .ok (.lastore, 1) := by decide +kernel
theorem dL_shiftOf_9 : decode cL_shiftOf 9 = .ok (.goto 6, 3) := by decide +kernel
theorem dL_shiftOf_12 : decode cL_shiftOf 12 = .ok (.astore_n 3, 1) := by decide +kernel
theorem dL_shiftOf_13 : decode cL_shiftOf 13 = .ok (.iconst 1, 1) := by decide +kernel
theorem dL_shiftOf_14 : decode cL_shiftOf 14 = .ok (.ireturn, 1) := by decide +kernel
theorem dL_shiftOf_15 : decode cL_shiftOf 15 = .ok (.iconst 0, 1) := by decide +kernel
theorem dL_shiftOf_16 : decode cL_shiftOf 16 = .ok (.ireturn, 1) := by decide +kernel
set_option maxRecDepth 20000 in
theorem ggL_shone_X1_shone : GoodIn wsL_shone wsX1_shone := goodIn_ca (goodIn_r _ [6, 7, 8, 9, 10, 5, 11, 12, 13, 14, 15, 16, 17, 18, 19, 20, 21, 22, 23, 24, 25, 26, 27, 28, 29, 30, 31, 32, 33, 34, 35, 36, 37, 38, 39, 40, 41, 42, 43, 44, 45, 46, 47, 48, 49, 50, 51, 52, 53] (by decide +kernel) (by decide +kernel)) (goodIn_sub (fun _ h => List.mem_cons_of_mem _ (List.mem_append_right _ h)) (by decide +kernel))
set_option maxRecDepth 20000 in
theorem gL_shone_X1_shone : GoodIn wsL_shone (wsV RL 53 RX1 yX1_shone wsX1_shone) := goodIn_app (goodIn_of _ (by decide +kernel)) ggL_shone_X1_shone
theorem dL_shone_0 : decode cL_shone 0 = .ok (.aload_n 2, 1) := by decide +kernel
theorem dL_shone_1 : decode cL_shone 1 = .ok (.iconst 0, 1) := by decide +kernel
theorem dL_shone_2 : decode cL_shone 2 = .ok (.aload_n 0, 1) := by decide +kernel
theorem dL_shone_3 : decode cL_shone 3 = .ok (.iload_n 1, 1) := by decide +kernel
theorem dL_shone_4 : decode cL_shone 4 = .ok (.invokevirtual 53, 3) := by decide +kernel
theorem dL_shone_7 : decode cL_shone 7 = .ok (.i2l, 1) := by decide +kernel
theorem dL_shone_8 : decode cL_shone 8 = .ok (.lastore, 1) := by decide +kernel
theorem dL_shone_9 : decode cL_shone 9 = .ok (.goto 6, 3) := by decide +kernel
theorem dL_shone_12 : decode cL_shone 12 = .ok (.astore_n 3, 1) := by decide +kernel
theorem dL_shone_13 : decode cL_shone 13 = .ok (.iconst 1, 1) := by decide +kernel
theorem dL_shone_14 : decode cL_shone 14 = .ok (.ireturn, 1) := by decide +kernel
theorem dL_shone_15 : decode cL_shone 15 = .ok (.iconst 0, 1) := by decide +kernel
theorem dL_shone_16 : decode cL_shone 16 = .ok (.ireturn, 1) := by decide +kernel
set_option maxRecDepth 20000 in
theorem ggL_stayedDark_X1_stayedDark : GoodIn wsL_stayedDark wsX1_stayedDark := goodIn_ca (goodIn_r _ [6, 7, 8, 9, 10, 5, 11, 12, 13, 14, 15, 16, 17, 18, 19, 20, 21, 22, 23, 24, 25, 26, 27, 28, 29, 30, 31, 32, 33, 34, 35, 36, 37, 38, 39, 40, 41, 42, 43, 44, 45, 46, 47, 48, 49, 50, 51, 52, 53] (by decide +kernel) (by decide +kernel)) (goodIn_sub (fun _ h => List.mem_cons_of_mem _ (List.mem_append_right _ h)) (by decide +kernel))
set_option maxRecDepth 20000 in
theorem gL_stayedDark_X1_stayedDark : GoodIn wsL_stayedDark (wsV RL 56 RX1 yX1_stayedDark wsX1_stayedDark) := goodIn_app (goodIn_of _ (by decide +kernel)) ggL_stayedDark_X1_stayedDark
theorem dL_stayedDark_0 : decode cL_stayedDark 0 = .ok (.aload_n 2, 1) := by decide +kernel
theorem dL_stayedDark_1 : decode cL_stayedDark 1 = .ok (.iconst 0, 1) := by decide +kernel
theorem dL_stayedDark_2 : decode cL_stayedDark 2 = .ok (.aload_n 0, 1) := by decide +kernel
theorem dL_stayedDark_3 : decode cL_stayedDark 3 = .ok (.iload_n 1, 1) := by decide +kernel
theorem dL_stayedDark_4 : decode cL_stayedDark 4 = .ok (.invokevirtual 56, 3) := by decide +kernel
theorem dL_stayedDark_7 : decode cL_stayedDark 7 = .ok (.i2l, 1) := by decide +kernel
theorem dL_stayedDark_8 : decode cL_stayedDark 8 = .ok (.lastore, 1) := by decide +kernel
theorem dL_stayedDark_9 : decode cL_stayedDark 9 = .ok (.goto 6, 3) := by decide +kernel
theorem dL_stayedDark_12 : decode cL_stayedDark 12 = .ok (.astore_n 3, 1) := by decide +kernel
theorem dL_stayedDark_13 : decode cL_stayedDark 13 = .ok (.iconst 1, 1) := by decide +kernel
theorem dL_stayedDark_14 : decode cL_stayedDark 14 = .ok (.ireturn, 1) := by decide +kernel
theorem dL_stayedDark_15 : decode cL_stayedDark 15 = .ok (.iconst 0, 1) := by decide +kernel
theorem dL_stayedDark_16 : decode cL_stayedDark 16 = .ok (.ireturn, 1) := by decide +kernel
set_option maxRecDepth 20000 in
theorem ggL_seen_X1_seen : GoodIn wsL_seen wsX1_seen := goodIn_ca (goodIn_r _ [6, 7, 8, 9, 10, 11, 12, 5, 13, 14, 15, 16, 17, 18, 19, 20, 21, 22, 23, 24, 25, 26, 27, 28, 29, 30, 31, 32, 33, 34, 35, 36, 37, 38, 39, 40, 41, 42, 43, 44, 45, 46, 47, 48, 49, 50, 51, 52, 53] (by decide +kernel) (by decide +kernel)) (goodIn_sub (fun _ h => List.mem_cons_of_mem _ (List.mem_append_right _ h)) (by decide +kernel))
set_option maxRecDepth 20000 in
theorem gL_seen_X1_seen : GoodIn wsL_seen (wsV RL 59 RX1 yX1_seen wsX1_seen) := goodIn_app (goodIn_of _ (by decide +kernel)) ggL_seen_X1_seen
theorem dL_seen_0 : decode cL_seen 0 = .ok (.aload_n 2, 1) := by decide +kernel
theorem dL_seen_1 : decode cL_seen 1 = .ok (.iconst 0, 1) := by decide +kernel
theorem dL_seen_2 : decode cL_seen 2 = .ok (.aload_n 0, 1) := by decide +kernel
theorem dL_seen_3 : decode cL_seen 3 = .ok (.iload_n 1, 1) := by decide +kernel
theorem dL_seen_4 : decode cL_seen 4 = .ok (.invokevirtual 59, 3) := by decide +kernel
theorem dL_seen_7 : decode cL_seen 7 = .ok (.i2l, 1) := by decide +kernel
theorem dL_seen_8 : decode cL_seen 8 = .ok (.lastore, 1) := by decide +kernel
theorem dL_seen_9 : decode cL_seen 9 = .ok (.goto 6, 3) := by decide +kernel
theorem dL_seen_12 : decode cL_seen 12 = .ok (.astore_n 3, 1) := by decide +kernel
theorem dL_seen_13 : decode cL_seen 13 = .ok (.iconst 1, 1) := by decide +kernel
theorem dL_seen_14 : decode cL_seen 14 = .ok (.ireturn, 1) := by decide +kernel
theorem dL_seen_15 : decode cL_seen 15 = .ok (.iconst 0, 1) := by decide +kernel
theorem dL_seen_16 : decode cL_seen 16 = .ok (.ireturn, 1) := by decide +kernel
set_option maxRecDepth 20000 in
theorem ggL_divisor_X1_divisor : GoodIn wsL_divisor wsX1_divisor := goodIn_ca (goodIn_r _ [6, 7, 8, 9, 10, 5, 11, 12, 13, 14, 15, 16, 17, 18, 19, 20, 21, 22, 23, 24, 25, 26, 27, 28, 29, 30, 31, 32, 33, 34, 35, 36, 37, 38, 39, 40, 41, 42, 43, 44, 45, 46, 47, 48, 49, 50, 51, 52, 53, 54, 55, 56, 57, 58, 59] (by decide +kernel) (by decide +kernel)) (goodIn_sub (fun _ h => List.mem_cons_of_mem _ (List.mem_append_right _ h)) (by decide +kernel))
set_option maxRecDepth 20000 in
theorem gL_divisor_X1_divisor : GoodIn wsL_divisor (wsV RL 62 RX1 yX1_divisor wsX1_divisor) := goodIn_app (goodIn_of _ (by decide +kernel)) ggL_divisor_X1_divisor
theorem dL_divisor_0 : decode cL_divisor 0 = .ok (.aload_n 3, 1) := by decide +kernel
theorem dL_divisor_1 : decode cL_divisor 1 = .ok (.iconst 0, 1) := by decide +kernel
theorem dL_divisor_2 : decode cL_divisor 2 = .ok (.aload_n 0, 1) := by decide +kernel
theorem dL_divisor_3 : decode cL_divisor 3 = .ok (.iload_n 1, 1) := by decide +kernel
theorem dL_divisor_4 : decode cL_divisor 4 = .ok (.iload_n 2, 1) := by decide +kernel
theorem dL_divisor_5 : decode cL_divisor 5 = .ok (.invokevirtual 62, 3) := by decide +kernel
theorem dL_divisor_8 : decode cL_divisor 8 = .ok (.i2l, 1) := by decide +kernel
theorem dL_divisor_9 : decode cL_divisor 9 = .ok (.lastore, 1) := by decide +kernel
theorem dL_divisor_10 : decode cL_divisor 10 = .ok (.goto 7, 3) := by decide +kernel
theorem dL_divisor_13 : decode cL_divisor 13 = .ok (.astore 4, 2) := by decide +kernel
theorem dL_divisor_15 : decode cL_divisor 15 = .ok (.iconst 1, 1) := by decide +kernel
theorem dL_divisor_16 : decode cL_divisor 16 = .ok (.ireturn, 1) := by decide +kernel
theorem dL_divisor_17 : decode cL_divisor 17 = .ok (.iconst 0, 1) := by decide +kernel
theorem dL_divisor_18 : decode cL_divisor 18 = .ok (.ireturn, 1) := by decide +kernel
set_option maxRecDepth 20000 in
theorem ggL_meet_X1_meet : GoodIn wsL_meet wsX1_meet := goodIn_ca (goodIn_r _ [6, 7, 8, 9, 10, 5, 11, 12, 13, 14, 15, 16, 17, 18, 19, 20, 21, 22, 23, 24, 25, 26, 27, 28, 29, 30, 31, 32, 33, 34, 35, 36, 37, 38, 39, 40, 41, 42, 43, 44, 45, 46, 47, 48, 49, 50, 51, 52, 53, 54, 55, 56, 57, 58, 59, 60, 61, 62, 63] (by decide +kernel) (by decide +kernel)) (goodIn_sub (fun _ h => List.mem_cons_of_mem _ (List.mem_append_right _ h)) (by decide +kernel))
set_option maxRecDepth 20000 in
theorem gL_meet_X1_meet : GoodIn wsL_meet (wsV RL 65 RX1 yX1_meet wsX1_meet) := goodIn_app (goodIn_of _ (by decide +kernel)) ggL_meet_X1_meet
theorem dL_meet_0 : decode cL_meet 0 = .ok (.aload_n 3, 1) := by decide +kernel
theorem dL_meet_1 : decode cL_meet 1 = .ok (.iconst 0, 1) := by decide +kernel
theorem dL_meet_2 : decode cL_meet 2 = .ok (.aload_n 0, 1) := by decide +kernel
theorem dL_meet_3 : decode cL_meet 3 = .ok (.iload_n 1, 1) := by decide +kernel
theorem dL_meet_4 : decode cL_meet 4 = .ok (.iload_n 2, 1) := by decide +kernel
theorem dL_meet_5 : decode cL_meet 5 = .ok (.invokevirtual 65, 3) := by decide +kernel
theorem dL_meet_8 : decode cL_meet 8 = .ok (.ifCond .eq 7, 3) := by decide +kernel
theorem dL_meet_11 : decode cL_meet 11 = .ok (.lconst 1, 1) := by decide +kernel
theorem dL_meet_12 : decode cL_meet 12 = .ok (.goto 4, 3) := by decide +kernel
theorem dL_meet_15 : decode cL_meet 15 = .ok (.lconst 0, 1) := by decide +kernel
theorem dL_meet_16 : decode cL_meet 16 = .ok (.lastore, 1) := by decide +kernel
theorem dL_meet_17 : decode cL_meet 17 = .ok (.goto 7, 3) := by decide +kernel
theorem dL_meet_20 : decode cL_meet 20 = .ok (.astore 4, 2) := by decide +kernel
theorem dL_meet_22 : decode cL_meet 22 = .ok (.iconst 1, 1) := by decide +kernel
theorem dL_meet_23 : decode cL_meet 23 = .ok (.ireturn, 1) := by decide +kernel
theorem dL_meet_24 : decode cL_meet 24 = .ok (.iconst 0, 1) := by decide +kernel
theorem dL_meet_25 : decode cL_meet 25 = .ok (.ireturn, 1) := by decide +kernel
set_option maxRecDepth 20000 in
theorem ggL_beatsUntilMeet_X1_beatsUntilMeet : GoodIn wsL_beatsUntilMeet wsX1_beatsUntilMeet := goodIn_ca (goodIn_r _ [6, 7, 8, 9, 10, 11, 5, 12, 13, 14, 15, 16, 17, 18, 19, 20, 21, 22, 23, 24, 25, 26, 27, 28, 29, 30, 31, 32, 33, 34, 35, 36, 37, 38, 39, 40, 41, 42, 43, 44, 45, 46, 47, 48, 49, 50, 51, 52, 53, 54, 55, 56, 57, 58, 59, 60, 61, 62, 63, 64, 65, 66, 67, 68, 69] (by decide +kernel) (by decide +kernel)) (goodIn_sub (fun _ h => List.mem_cons_of_mem _ (List.mem_append_right _ h)) (by decide +kernel))
set_option maxRecDepth 20000 in
theorem gL_beatsUntilMeet_X1_beatsUntilMeet : GoodIn wsL_beatsUntilMeet (wsV RL 68 RX1 yX1_beatsUntilMeet wsX1_beatsUntilMeet) := goodIn_app (goodIn_of _ (by decide +kernel)) ggL_beatsUntilMeet_X1_beatsUntilMeet
theorem dL_beatsUntilMeet_0 : decode cL_beatsUntilMeet 0 = .ok (.aload_n 3, 1) := by decide +kernel
theorem dL_beatsUntilMeet_1 : decode cL_beatsUntilMeet 1 = .ok (.iconst 0, 1) := by decide +kernel
theorem dL_beatsUntilMeet_2 : decode cL_beatsUntilMeet 2 = .ok (.aload_n 0, 1) := by decide +kernel
theorem dL_beatsUntilMeet_3 : decode cL_beatsUntilMeet 3 = .ok (.iload_n 1, 1) := by decide +kernel
theorem dL_beatsUntilMeet_4 : decode cL_beatsUntilMeet 4 = .ok (.iload_n 2, 1) := by decide +kernel
theorem dL_beatsUntilMeet_5 : decode cL_beatsUntilMeet 5 = .ok (.invokevirtual 68, 3) := by decide +kernel
theorem dL_beatsUntilMeet_8 : decode cL_beatsUntilMeet 8 = .ok (.i2l, 1) := by decide +kernel
theorem dL_beatsUntilMeet_9 : decode cL_beatsUntilMeet 9 = .ok (.lastore, 1) := by decide +kernel
theorem dL_beatsUntilMeet_10 : decode cL_beatsUntilMeet 10 = .ok (.goto 7, 3) := by decide +kernel
theorem dL_beatsUntilMeet_13 : decode cL_beatsUntilMeet 13 = .ok (.astore 4, 2) := by decide +kernel
theorem dL_beatsUntilMeet_15 : decode cL_beatsUntilMeet 15 = .ok (.iconst 1, 1) := by decide +kernel
theorem dL_beatsUntilMeet_16 : decode cL_beatsUntilMeet 16 = .ok (.ireturn, 1) := by decide +kernel
theorem dL_beatsUntilMeet_17 : decode cL_beatsUntilMeet 17 = .ok (.iconst 0, 1) := by decide +kernel
theorem dL_beatsUntilMeet_18 : decode cL_beatsUntilMeet 18 = .ok (.ireturn, 1) := by decide +kernel
set_option maxRecDepth 20000 in
theorem ggL_meets_X1_meets : GoodIn wsL_meets wsX1_meets := goodIn_ca (goodIn_r _ [6, 7, 8, 9, 10, 5, 11, 12, 13, 14, 15, 16, 17, 18, 19, 20, 21, 22, 23, 24, 25, 26, 27, 28, 29, 30, 31, 32, 33, 34, 35, 36, 37, 38, 39, 40, 41, 42, 43, 44, 45, 46, 47, 48, 49, 50, 51, 52, 53, 54, 55, 56, 57, 58, 59, 60, 61, 62, 63, 64, 65, 66, 67] (by decide +kernel) (by decide +kernel)) (goodIn_sub (fun _ h => List.mem_cons_of_mem _ (List.mem_append_right _ h)) (by decide +kernel))
set_option maxRecDepth 20000 in
theorem gL_meets_X1_meets : GoodIn wsL_meets (wsV RL 71 RX1 yX1_meets wsX1_meets) := goodIn_app (goodIn_of _ (by decide +kernel)) ggL_meets_X1_meets
theorem dL_meets_0 : decode cL_meets 0 = .ok (.aload_n 2, 1) := by decide +kernel
theorem dL_meets_1 : decode cL_meets 1 = .ok (.iconst 0, 1) := by decide +kernel
theorem dL_meets_2 : decode cL_meets 2 = .ok (.aload_n 0, 1) := by decide +kernel
theorem dL_meets_3 : decode cL_meets 3 = .ok (.iload_n 1, 1) := by decide +kernel
theorem dL_meets_4 : decode cL_meets 4 = .ok (.invokevirtual 71, 3) := by decide +kernel
theorem dL_meets_7 : decode cL_meets 7 = .ok (.i2l, 1) := by decide +kernel
theorem dL_meets_8 : decode cL_meets 8 = .ok (.lastore, 1) := by decide +kernel
theorem dL_meets_9 : decode cL_meets 9 = .ok (.goto 6, 3) := by decide +kernel
theorem dL_meets_12 : decode cL_meets 12 = .ok (.astore_n 3, 1) := by decide +kernel
theorem dL_meets_13 : decode cL_meets 13 = .ok (.iconst 1, 1) := by decide +kernel
theorem dL_meets_14 : decode cL_meets 14 = .ok (.ireturn, 1) := by decide +kernel
theorem dL_meets_15 : decode cL_meets 15 = .ok (.iconst 0, 1) := by decide +kernel
theorem dL_meets_16 : decode cL_meets 16 = .ok (.ireturn, 1) := by decide +kernel
set_option maxRecDepth 20000 in
theorem ggL_bestShift_X1_bestShift : GoodIn wsL_bestShift wsX1_bestShift := goodIn_ca (goodIn_r _ [6, 7, 8, 9, 10, 5, 11, 12, 13, 14, 15, 16, 17, 18, 19, 20, 21, 22, 23, 24, 25, 26, 27, 28, 29, 30, 31, 32, 33, 34, 35, 36, 37, 38, 39, 40, 41, 42, 43, 44, 45, 46, 47, 48, 49, 50, 51, 52, 53, 54, 55, 56, 57, 58, 59, 60, 61, 62, 63, 64, 65, 66, 67] (by decide +kernel) (by decide +kernel)) (goodIn_sub (fun _ h => List.mem_cons_of_mem _ (List.mem_append_right _ h)) (by decide +kernel))
set_option maxRecDepth 20000 in
theorem gL_bestShift_X1_bestShift : GoodIn wsL_bestShift (wsV RL 74 RX1 yX1_bestShift wsX1_bestShift) := goodIn_app (goodIn_of _ (by decide +kernel)) ggL_bestShift_X1_bestShift
theorem dL_bestShift_0 : decode cL_bestShift 0 = .ok (.aload_n 2, 1) := by decide +kernel
theorem dL_bestShift_1 : decode cL_bestShift 1 = .ok (.iconst 0, 1) := by decide +kernel
theorem dL_bestShift_2 : decode cL_bestShift 2 = .ok (.aload_n 0, 1) := by decide +kernel
theorem dL_bestShift_3 : decode cL_bestShift 3 = .ok (.iload_n 1, 1) := by decide +kernel
theorem dL_bestShift_4 : decode cL_bestShift 4 = .ok (.invokevirtual 74, 3) := by decide +kernel
theorem dL_bestShift_7 : decode cL_bestShift 7 = .ok (.i2l, 1) := by decide +kernel
theorem dL_bestShift_8 : decode cL_bestShift 8 = .ok (.lastore, 1) := by decide +kernel
theorem dL_bestShift_9 : decode cL_bestShift 9 = .ok (.goto 6, 3) := by decide +kernel
theorem dL_bestShift_12 : decode cL_bestShift 12 = .ok (.astore_n 3, 1) := by decide +kernel
theorem dL_bestShift_13 : decode cL_bestShift 13 = .ok (.iconst 1, 1) := by decide +kernel
theorem dL_bestShift_14 : decode cL_bestShift 14 = .ok (.ireturn, 1) := by decide +kernel
theorem dL_bestShift_15 : decode cL_bestShift 15 = .ok (.iconst 0, 1) := by decide +kernel
theorem dL_bestShift_16 : decode cL_bestShift 16 = .ok (.ireturn, 1) := by decide +kernel
set_option maxRecDepth 20000 in
theorem ggL_dueIn_X1_dueIn : GoodIn wsL_dueIn wsX1_dueIn := goodIn_ca (goodIn_ca (goodIn_r _ [7, 8, 9, 10, 11, 12, 6, 13, 14, 15, 16, 17, 18, 19, 20, 21, 22, 23, 24, 25, 26, 27, 28, 29, 30, 31, 32, 33, 34, 35, 36, 37, 38, 39, 40, 41, 42, 43, 44, 45, 46, 47, 48, 49, 50, 51, 52, 53, 54, 55, 56, 57, 58, 59, 60, 61, 62, 63, 64, 65, 66, 67, 68, 69, 70, 71, 72, 73, 74, 75, 76] (by decide +kernel) (by decide +kernel)) (goodIn_sub (fun _ h => List.mem_cons_of_mem _ (List.mem_append_left _ (List.mem_append_right _ h))) (by decide +kernel))) (goodIn_sub (fun _ h => List.mem_cons_of_mem _ (List.mem_append_right _ h)) (by decide +kernel))
set_option maxRecDepth 20000 in
theorem gL_dueIn_X1_dueIn : GoodIn wsL_dueIn (wsV RL 77 RX1 yX1_dueIn wsX1_dueIn) := goodIn_app (goodIn_of _ (by decide +kernel)) ggL_dueIn_X1_dueIn
theorem dL_dueIn_0 : decode cL_dueIn 0 = .ok (.aload_n 3, 1) := by decide +kernel
theorem dL_dueIn_1 : decode cL_dueIn 1 = .ok (.iconst 0, 1) := by decide +kernel
theorem dL_dueIn_2 : decode cL_dueIn 2 = .ok (.aload_n 0, 1) := by decide +kernel
theorem dL_dueIn_3 : decode cL_dueIn 3 = .ok (.iload_n 1, 1) := by decide +kernel
theorem dL_dueIn_4 : decode cL_dueIn 4 = .ok (.iload_n 2, 1) := by decide +kernel
theorem dL_dueIn_5 : decode cL_dueIn 5 = .ok (.invokevirtual 77, 3) := by decide +kernel
theorem dL_dueIn_8 : decode cL_dueIn 8 = .ok (.i2l, 1) := by decide +kernel
theorem dL_dueIn_9 : decode cL_dueIn 9 = .ok (.lastore, 1) := by decide +kernel
theorem dL_dueIn_10 : decode cL_dueIn 10 = .ok (.goto 11, 3) := by decide +kernel
theorem dL_dueIn_13 : decode cL_dueIn 13 = .ok (.astore 4, 2) := by decide +kernel
theorem dL_dueIn_15 : decode cL_dueIn 15 = .ok (.iconst 1, 1) := by decide +kernel
theorem dL_dueIn_16 : decode cL_dueIn 16 = .ok (.ireturn, 1) := by decide +kernel
theorem dL_dueIn_17 : decode cL_dueIn 17 = .ok (.astore 4, 2) := by decide +kernel
theorem dL_dueIn_19 : decode cL_dueIn 19 = .ok (.iconst 2, 1) := by decide +kernel
theorem dL_dueIn_20 : decode cL_dueIn 20 = .ok (.ireturn, 1) := by decide +kernel
theorem dL_dueIn_21 : decode cL_dueIn 21 = .ok (.iconst 0, 1) := by decide +kernel
theorem dL_dueIn_22 : decode cL_dueIn 22 = .ok (.ireturn, 1) := by decide +kernel
set_option maxRecDepth 20000 in
theorem ggL_brightest_X1_brightest : GoodIn wsL_brightest wsX1_brightest := goodIn_ca (goodIn_r _ [6, 7, 8, 9, 10, 11, 12, 13, 5, 14, 15, 16, 17, 18, 19, 20, 21, 22, 23, 24, 25, 26, 27, 28, 29, 30, 31, 32, 33, 34, 35, 36, 37, 38, 39, 40, 41, 42, 43, 44, 45, 46, 47, 48, 49, 50, 51, 52, 53, 54, 55, 56, 57, 58, 59, 60, 61, 62, 63, 64, 65, 66, 67, 68, 69, 70, 71, 72, 73, 74, 75] (by decide +kernel) (by decide +kernel)) (goodIn_sub (fun _ h => List.mem_cons_of_mem _ (List.mem_append_right _ h)) (by decide +kernel))
set_option maxRecDepth 20000 in
theorem gL_brightest_X1_brightest : GoodIn wsL_brightest (wsV RL 80 RX1 yX1_brightest wsX1_brightest) := goodIn_app (goodIn_of _ (by decide +kernel)) ggL_brightest_X1_brightest
theorem dL_brightest_0 : decode cL_brightest 0 = .ok (.aload_n 2, 1) := by decide +kernel
theorem dL_brightest_1 : decode cL_brightest 1 = .ok (.iconst 0, 1) := by decide +kernel
theorem dL_brightest_2 : decode cL_brightest 2 = .ok (.aload_n 0, 1) := by decide +kernel
theorem dL_brightest_3 : decode cL_brightest 3 = .ok (.iload_n 1, 1) := by decide +kernel
theorem dL_brightest_4 : decode cL_brightest 4 = .ok (.invokevirtual 80, 3) := by decide +kernel
theorem dL_brightest_7 : decode cL_brightest 7 = .ok (.i2l, 1) := by decide +kernel
theorem dL_brightest_8 : decode cL_brightest 8 = .ok (.lastore, 1) := by decide +kernel
theorem dL_brightest_9 : decode cL_brightest 9 = .ok (.goto 6, 3) := by decide +kernel
theorem dL_brightest_12 : decode cL_brightest 12 = .ok (.astore_n 3, 1) := by decide +kernel
theorem dL_brightest_13 : decode cL_brightest 13 = .ok (.iconst 1, 1) := by decide +kernel
theorem dL_brightest_14 : decode cL_brightest 14 = .ok (.ireturn, 1) := by decide +kernel
theorem dL_brightest_15 : decode cL_brightest 15 = .ok (.iconst 0, 1) := by decide +kernel
theorem dL_brightest_16 : decode cL_brightest 16 = .ok (.ireturn, 1) := by decide +kernel
set_option maxRecDepth 20000 in
theorem ggL_unfairnessIn_X1_unfairnessIn : GoodIn wsL_unfairnessIn wsX1_unfairnessIn := goodIn_ca (goodIn_r _ [6, 7, 8, 5, 9, 10, 11, 12, 13, 14, 15, 16, 17, 18, 19, 20, 21, 22, 23, 24, 25, 26, 27, 28, 29, 30, 31, 32, 33, 34, 35, 36, 37, 38, 39, 40, 41, 42, 43, 44, 45, 46, 47, 48, 49, 50, 51, 52, 53, 54, 55, 56, 57, 58, 59, 60, 61, 62, 63, 64, 65, 66, 67, 68, 69, 70, 71, 72, 73, 74, 75, 76, 77, 78, 79, 80, 81, 82, 83, 84, 85, 86, 87, 88, 89, 90, 91, 92, 93, 94, 95, 96, 97] (by decide +kernel) (by decide +kernel)) (goodIn_sub (fun _ h => List.mem_cons_of_mem _ (List.mem_append_right _ h)) (by decide +kernel))
set_option maxRecDepth 20000 in
theorem gL_unfairnessIn_X1_unfairnessIn : GoodIn wsL_unfairnessIn (wsV RL 83 RX1 yX1_unfairnessIn wsX1_unfairnessIn) := goodIn_app (goodIn_of _ (by decide +kernel)) ggL_unfairnessIn_X1_unfairnessIn
theorem dL_unfairnessIn_0 : decode cL_unfairnessIn 0 = .ok (.aload_n 2, 1) := by decide +kernel
theorem dL_unfairnessIn_1 : decode cL_unfairnessIn 1 = .ok (.iconst 0, 1) := by decide +kernel
theorem dL_unfairnessIn_2 : decode cL_unfairnessIn 2 = .ok (.aload_n 0, 1) := by decide +kernel
theorem dL_unfairnessIn_3 : decode cL_unfairnessIn 3 = .ok (.iload_n 1, 1) := by decide +kernel
theorem dL_unfairnessIn_4 : decode cL_unfairnessIn 4 = .ok (.invokevirtual 83, 3) := by decide +kernel
theorem dL_unfairnessIn_7 : decode cL_unfairnessIn 7 = .ok (.i2l, 1) := by decide +kernel
theorem dL_unfairnessIn_8 : decode cL_unfairnessIn 8 = .ok (.lastore, 1) := by decide +kernel
theorem dL_unfairnessIn_9 : decode cL_unfairnessIn 9 = .ok (.goto 6, 3) := by decide +kernel
theorem dL_unfairnessIn_12 : decode cL_unfairnessIn 12 = .ok (.astore_n 3, 1) := by decide +kernel
theorem dL_unfairnessIn_13 : decode cL_unfairnessIn 13 = .ok (.iconst 1, 1) := by decide +kernel
theorem dL_unfairnessIn_14 : decode cL_unfairnessIn 14 = .ok (.ireturn, 1) := by decide +kernel
theorem dL_unfairnessIn_15 : decode cL_unfairnessIn 15 = .ok (.iconst 0, 1) := by decide +kernel
theorem dL_unfairnessIn_16 : decode cL_unfairnessIn 16 = .ok (.ireturn, 1) := by decide +kernel
set_option maxRecDepth 20000 in
theorem ggL_limitWanted_X1_limitWanted : GoodIn wsL_limitWanted wsX1_limitWanted := goodIn_ca (goodIn_r _ [6, 7, 8, 9, 10, 11, 12, 13, 5, 14, 15, 16, 17, 18, 19, 20, 21, 22, 23, 24, 25, 26, 27, 28, 29, 30, 31, 32, 33, 34, 35, 36, 37, 38, 39, 40, 41, 42, 43, 44, 45, 46, 47, 48, 49, 50, 51, 52, 53, 54, 55, 56, 57, 58, 59, 60, 61, 62, 63, 64, 65, 66, 67, 68, 69, 70, 71, 72, 73] (by decide +kernel) (by decide +kernel)) (goodIn_sub (fun _ h => List.mem_cons_of_mem _ (List.mem_append_right _ h)) (by decide +kernel))
set_option maxRecDepth 20000 in
theorem gL_limitWanted_X1_limitWanted : GoodIn wsL_limitWanted (wsV RL 86 RX1 yX1_limitWanted wsX1_limitWanted) := goodIn_app (goodIn_of _ (by decide +kernel)) ggL_limitWanted_X1_limitWanted
theorem dL_limitWanted_0 : decode cL_limitWanted 0 = .ok (.aload_n 2, 1) := by decide +kernel
theorem dL_limitWanted_1 : decode cL_limitWanted 1 = .ok (.iconst 0, 1) := by decide +kernel
theorem dL_limitWanted_2 : decode cL_limitWanted 2 = .ok (.aload_n 0, 1) := by decide +kernel
theorem dL_limitWanted_3 : decode cL_limitWanted 3 = .ok (.iload_n 1, 1) := by decide +kernel
theorem dL_limitWanted_4 : decode cL_limitWanted 4 = .ok (.invokevirtual 86, 3) := by decide +kernel
theorem dL_limitWanted_7 : decode cL_limitWanted 7 = .ok (.i2l, 1) := by decide +kernel
theorem dL_limitWanted_8 : decode cL_limitWanted 8 = .ok (.lastore, 1) := by decide +kernel
theorem dL_limitWanted_9 : decode cL_limitWanted 9 = .ok (.goto 6, 3) := by decide +kernel
theorem dL_limitWanted_12 : decode cL_limitWanted 12 = .ok (.astore_n 3, 1) := by decide +kernel
theorem dL_limitWanted_13 : decode cL_limitWanted 13 = .ok (.iconst 1, 1) := by decide +kernel
theorem dL_limitWanted_14 : decode cL_limitWanted 14 = .ok (.ireturn, 1) := by decide +kernel
theorem dL_limitWanted_15 : decode cL_limitWanted 15 = .ok (.iconst 0, 1) := by decide +kernel
theorem dL_limitWanted_16 : decode cL_limitWanted 16 = .ok (.ireturn, 1) := by decide +kernel
set_option maxRecDepth 20000 in
theorem ggL_law_X1_init : GoodIn wsL_law wsX1_init := goodIn_r _ [9, 10, 11, 12, 13, 14, 15, 16, 17, 18, 19, 20, 21, 22, 23, 24, 25, 26, 27, 28, 29, 30, 31, 32, 33, 720, 721, 722, 707, 708, 709] (by decide +kernel) (by decide +kernel)
set_option maxRecDepth 20000 in
theorem gL_law_X1_init : GoodIn wsL_law (wsX1_init) := ggL_law_X1_init
set_option maxRecDepth 20000 in
theorem ggL_law_X2_init : GoodIn wsL_law wsX2_init := goodIn_r _ [36, 37, 11, 12, 38, 39, 40, 41, 42, 43, 44, 45, 46, 710, 711, 712, 713, 714, 715, 716, 717, 718, 719] (by decide +kernel) (by decide +kernel)
set_option maxRecDepth 20000 in
theorem gL_law_X2_init : GoodIn wsL_law (wsX2_init) := ggL_law_X2_init
set_option maxRecDepth 20000 in
theorem ggL_law_L_addLamp : GoodIn wsL_law wsL_addLamp := goodIn_ca (goodIn_ca (goodIn_r _ [50, 51, 52, 53, 54, 55, 2, 56, 57, 58, 16, 59, 60, 61, 62, 63, 64, 65, 66, 67, 68, 69, 15, 70, 71, 72, 73, 74, 75, 11, 12, 76, 77, 78, 79, 80, 81, 82, 83, 84, 85, 86, 87, 88, 89, 90, 23, 91, 92, 93, 94, 95, 96, 97, 98, 99, 100, 101, 102, 22, 103, 104, 105, 106, 107, 108, 109, 110, 111, 112, 113, 114, 115, 116, 117, 118, 119, 120, 121, 122, 123, 124, 125, 126, 127, 128, 129, 130, 131, 132, 133, 134, 135, 136, 707, 708, 709, 723, 724, 725, 726, 727, 728, 729, 730, 731, 720, 721, 722] (by decide +kernel) (by decide +kernel)) (goodIn_sub (fun _ h => List.mem_append_left _ (List.mem_append_left _ (List.mem_append_right _ h))) (by decide +kernel))) (goodIn_sub (fun _ h => List.mem_append_left _ (List.mem_append_right _ h)) (by decide +kernel))
set_option maxRecDepth 20000 in
theorem gL_law_L_addLamp : GoodIn wsL_law (va_wsS RL 93 yL_addLamp wsL_addLamp) := goodIn_app (goodIn_of _ (by decide +kernel)) ggL_law_L_addLamp
set_option maxRecDepth 20000 in
theorem ggL_law_X2_addLamp : GoodIn wsL_law wsX2_addLamp := goodIn_r _ [140, 141, 142, 40, 41, 43, 44, 143, 144, 5, 145, 146, 147, 148, 149, 150, 151, 152, 710, 711, 712, 713, 714, 715, 716, 717, 718, 719] (by decide +kernel) (by decide +kernel)
set_option maxRecDepth 20000 in
theorem gL_law_X2_addLamp : GoodIn wsL_law (wsV RL 98 RX2 yX2_addLamp wsX2_addLamp) := goodIn_app (goodIn_of _ (by decide +kernel)) ggL_law_X2_addLamp
set_option maxRecDepth 20000 in
theorem ggL_law_X2_thrown : GoodIn wsL_law wsX2_thrown := goodIn_r _ [156, 141, 710, 711, 712, 713, 714, 715, 716, 717, 718, 719] (by decide +kernel) (by decide +kernel)
set_option maxRecDepth 20000 in
theorem gL_law_X2_thrown : GoodIn wsL_law (wsV RL 99 RX2 yX2_thrown wsX2_thrown) := goodIn_app (goodIn_of _ (by decide +kernel)) ggL_law_X2_thrown
set_option maxRecDepth 20000 in
theorem ggL_law_L_setShift : GoodIn wsL_law wsL_setShift := goodIn_ca (goodIn_ca (goodIn_r _ [159, 160, 51, 161, 162, 163, 2, 164, 165, 166, 167, 168, 169, 170, 171, 172, 16, 173, 67, 68, 69, 15, 70, 71, 174, 175, 176, 177, 178, 179, 180, 181, 182, 183, 184, 185, 186, 187, 188, 189, 23, 62, 63, 64, 65, 66, 723, 724, 725, 726, 727, 728, 729, 730, 731, 707, 708, 709, 720, 721, 722] (by decide +kernel) (by decide +kernel)) (goodIn_sub (fun _ h => List.mem_append_right _ h) (by decide +kernel))) (goodIn_sub (fun _ h => List.mem_append_left _ (List.mem_append_right _ h)) (by decide +kernel))
set_option maxRecDepth 20000 in
theorem gL_law_L_setShift : GoodIn wsL_law (va_wsS RL 103 yL_setShift wsL_setShift) := goodIn_app (goodIn_of _ (by decide +kernel)) ggL_law_L_setShift
set_option maxRecDepth 20000 in
theorem ggL_law_X2_setShift : GoodIn wsL_law wsX2_setShift := goodIn_r _ [193, 141, 41, 42, 194, 195, 196, 5, 197, 142, 146, 147, 148, 149, 150, 151, 152, 710, 711, 712, 713, 714, 715, 716, 717, 718, 719] (by decide +kernel) (by decide +kernel)
set_option maxRecDepth 20000 in
theorem gL_law_X2_setShift : GoodIn wsL_law (wsV RL 106 RX2 yX2_setShift wsX2_setShift) := goodIn_app (goodIn_of _ (by decide +kernel)) ggL_law_X2_setShift
set_option maxRecDepth 20000 in
theorem ggL_law_L_setLength : GoodIn wsL_law wsL_setLength := goodIn_ca (goodIn_ca (goodIn_r _ [200, 160, 51, 201, 202, 203, 2, 204, 165, 205, 167, 168, 169, 170, 171, 172, 16, 173, 67, 68, 69, 15, 70, 71, 174, 175, 176, 177, 178, 179, 180, 181, 182, 183, 184, 185, 186, 187, 188, 189, 23, 62, 63, 64, 65, 66, 723, 724, 725, 726, 727, 728, 729, 730, 731, 707, 708, 709, 720, 721, 722] (by decide +kernel) (by decide +kernel)) (goodIn_sub (fun _ h => List.mem_append_right _ h) (by decide +kernel))) (goodIn_sub (fun _ h => List.mem_append_left _ (List.mem_append_right _ h)) (by decide +kernel))
set_option maxRecDepth 20000 in
theorem gL_law_L_setLength : GoodIn wsL_law (va_wsS RL 107 yL_setLength wsL_setLength) := goodIn_app (goodIn_of _ (by decide +kernel)) ggL_law_L_setLength
set_option maxRecDepth 20000 in
theorem ggL_law_X2_setLength : GoodIn wsL_law wsX2_setLength := goodIn_r _ [209, 141, 41, 43, 194, 195, 196, 5, 197, 142, 146, 147, 148, 149, 150, 151, 152, 710, 711, 712, 713, 714, 715, 716, 717, 718, 719] (by decide +kernel) (by decide +kernel)
set_option maxRecDepth 20000 in
theorem gL_law_X2_setLength : GoodIn wsL_law (wsV RL 109 RX2 yX2_setLength wsX2_setLength) := goodIn_app (goodIn_of _ (by decide +kernel)) ggL_law_X2_setLength
set_option maxRecDepth 20000 in
theorem ggL_law_L_swapColours : GoodIn wsL_law wsL_swapColours := goodIn_ca (goodIn_ca (goodIn_r _ [212, 160, 51, 213, 214, 215, 2, 216, 65, 66, 217, 167, 168, 169, 170, 171, 172, 16, 173, 67, 68, 69, 15, 70, 71, 174, 175, 176, 177, 178, 179, 180, 181, 182, 183, 184, 185, 186, 187, 188, 189, 23, 723, 724, 725, 726, 727, 728, 729, 730, 731, 707, 708, 709, 720, 721, 722] (by decide +kernel) (by decide +kernel)) (goodIn_sub (fun _ h => List.mem_append_left _ (List.mem_append_right _ h)) (by decide +kernel))) (goodIn_sub (fun _ h => List.mem_append_right _ h) (by decide +kernel))
set_option maxRecDepth 20000 in
theorem gL_law_L_swapColours : GoodIn wsL_law (va_wsS RL 110 yL_swapColours wsL_swapColours) := goodIn_app (goodIn_of _ (by decide +kernel)) ggL_law_L_swapColours
set_option maxRecDepth 20000 in
theorem ggL_law_X2_swapColours : GoodIn wsL_law wsX2_swapColours := goodIn_r _ [221, 141, 40, 222, 223, 224, 5, 225, 194, 195, 196, 197, 142, 146, 147, 148, 226, 227, 228, 229, 710, 711, 712, 713, 714, 715, 716, 717, 718, 719] (by decide +kernel) (by decide +kernel)
set_option maxRecDepth 20000 in
theorem gL_law_X2_swapColours : GoodIn wsL_law (wsV RL 112 RX2 yX2_swapColours wsX2_swapColours) := goodIn_app (goodIn_of _ (by decide +kernel)) ggL_law_X2_swapColours
set_option maxRecDepth 20000 in
theorem ggL_law_L_setLimit : GoodIn wsL_law wsL_setLimit := goodIn_ca (goodIn_r _ [232, 51, 233, 234, 235, 2, 236, 18, 62, 63, 64, 65, 66, 707, 708, 709] (by decide +kernel) (by decide +kernel)) (goodIn_sub (fun _ h => List.mem_append_left _ (List.mem_append_right _ h)) (by decide +kernel))
set_option maxRecDepth 20000 in
theorem gL_law_L_setLimit : GoodIn wsL_law (va_wsS RL 113 yL_setLimit wsL_setLimit) := goodIn_app (goodIn_of _ (by decide +kernel)) ggL_law_L_setLimit
set_option maxRecDepth 20000 in
theorem ggL_law_X2_setLimit : GoodIn wsL_law wsX2_setLimit := goodIn_r _ [240, 141, 38, 146, 147, 5, 148, 149, 150, 151, 152, 710, 711, 712, 713, 714, 715, 716, 717, 718, 719] (by decide +kernel) (by decide +kernel)
set_option maxRecDepth 20000 in
theorem gL_law_X2_setLimit : GoodIn wsL_law (wsV RL 116 RX2 yX2_setLimit wsX2_setLimit) := goodIn_app (goodIn_of _ (by decide +kernel)) ggL_law_X2_setLimit
set_option maxRecDepth 20000 in
theorem ggL_law_L_pass : GoodIn wsL_law wsL_pass := goodIn_ca (goodIn_r _ [243, 51, 244, 245, 246, 2, 247, 62, 63, 64, 65, 66, 248, 249, 250, 251, 17, 16, 173, 252, 253, 254, 255, 256, 257, 258, 259, 18, 67, 68, 69, 15, 70, 71, 174, 175, 176, 177, 178, 179, 180, 181, 182, 183, 184, 185, 186, 187, 188, 189, 23, 260, 261, 262, 61, 263, 78, 264, 265, 266, 267, 77, 80, 707, 708, 709, 723, 724, 725, 726, 727, 728, 729, 730, 731, 720, 721, 722] (by decide +kernel) (by decide +kernel)) (goodIn_sub (fun _ h => List.mem_append_left _ (List.mem_append_right _ h)) (by decide +kernel))
set_option maxRecDepth 20000 in
theorem gL_law_L_pass : GoodIn wsL_law (va_wsS RL 117 yL_pass wsL_pass) := goodIn_app (goodIn_of _ (by decide +kernel)) ggL_law_L_pass
set_option maxRecDepth 20000 in
theorem ggL_law_X2_pass : GoodIn wsL_law wsX2_pass := goodIn_r _ [271, 141, 146, 147, 5, 148, 149, 150, 151, 152, 272, 273, 274, 275, 142, 45, 276, 277, 278, 279, 44, 38, 280, 281, 282, 283, 43, 284, 285, 286, 287, 42, 41, 710, 711, 712, 713, 714, 715, 716, 717, 718, 719] (by decide +kernel) (by decide +kernel)
set_option maxRecDepth 20000 in
theorem gL_law_X2_pass : GoodIn wsL_law (wsV RL 119 RX2 yX2_pass wsX2_pass) := goodIn_app (goodIn_of _ (by decide +kernel)) ggL_law_X2_pass
set_option maxRecDepth 20000 in
theorem ggL_law_X1_beat : GoodIn wsL_law wsX1_beat := goodIn_r _ [291, 17, 707, 708, 709] (by decide +kernel) (by decide +kernel)
set_option maxRecDepth 20000 in
theorem gL_law_X1_beat : GoodIn wsL_law (wsV RL 120 RX1 yX1_beat wsX1_beat) := goodIn_app (goodIn_of _ (by decide +kernel)) ggL_law_X1_beat
set_option maxRecDepth 20000 in
theorem ggL_law_X2_beat : GoodIn wsL_law wsX2_beat := goodIn_r _ [295, 45, 296, 297, 298, 5, 299, 141, 710, 711, 712, 713, 714, 715, 716, 717, 718, 719] (by decide +kernel) (by decide +kernel)
set_option maxRecDepth 20000 in
theorem gL_law_X2_beat : GoodIn wsL_law (wsV RL 123 RX2 yX2_beat wsX2_beat) := goodIn_app (goodIn_of _ (by decide +kernel)) ggL_law_X2_beat
set_option maxRecDepth 20000 in
theorem ggL_law_X1_lamps : GoodIn wsL_law wsX1_lamps := goodIn_r _ [303, 16, 67, 68, 69, 15, 70, 71, 707, 708, 709, 720, 721, 722] (by decide +kernel) (by decide +kernel)
set_option maxRecDepth 20000 in
theorem gL_law_X1_lamps : GoodIn wsL_law (wsV RL 124 RX1 yX1_lamps wsX1_lamps) := goodIn_app (goodIn_of _ (by decide +kernel)) ggL_law_X1_lamps
set_option maxRecDepth 20000 in
theorem ggL_law_X2_lamps : GoodIn wsL_law wsX2_lamps := goodIn_r _ [307, 142, 296, 297, 298, 5, 299, 141, 710, 711, 712, 713, 714, 715, 716, 717, 718, 719] (by decide +kernel) (by decide +kernel)
set_option maxRecDepth 20000 in
theorem gL_law_X2_lamps : GoodIn wsL_law (wsV RL 127 RX2 yX2_lamps wsX2_lamps) := goodIn_app (goodIn_of _ (by decide +kernel)) ggL_law_X2_lamps
set_option maxRecDepth 20000 in
theorem ggL_law_X1_limit : GoodIn wsL_law wsX1_limit := goodIn_r _ [311, 18, 707, 708, 709] (by decide +kernel) (by decide +kernel)
set_option maxRecDepth 20000 in
theorem gL_law_X1_limit : GoodIn wsL_law (wsV RL 128 RX1 yX1_limit wsX1_limit) := goodIn_app (goodIn_of _ (by decide +kernel)) ggL_law_X1_limit
set_option maxRecDepth 20000 in
theorem ggL_law_X2_limit : GoodIn wsL_law wsX2_limit := goodIn_r _ [315, 38, 296, 297, 298, 5, 299, 141, 710, 711, 712, 713, 714, 715, 716, 717, 718, 719] (by decide +kernel) (by decide +kernel)
set_option maxRecDepth 20000 in
theorem gL_law_X2_limit : GoodIn wsL_law (wsV RL 131 RX2 yX2_limit wsX2_limit) := goodIn_app (goodIn_of _ (by decide +kernel)) ggL_law_X2_limit
set_option maxRecDepth 20000 in
theorem ggL_law_X1_power : GoodIn wsL_law wsX1_power := goodIn_r _ [319, 17, 255, 256, 257, 2, 258, 16, 173, 259, 18, 252, 67, 68, 69, 15, 70, 71, 174, 175, 176, 177, 178, 179, 180, 181, 182, 183, 184, 185, 186, 187, 188, 189, 23, 260, 261, 262, 61, 263, 78, 264, 265, 266, 267, 77, 80, 707, 708, 709, 723, 724, 725, 726, 727, 728, 729, 730, 731, 720, 721, 722] (by decide +kernel) (by decide +kernel)
set_option maxRecDepth 20000 in
theorem gL_law_X1_power : GoodIn wsL_law (wsV RL 132 RX1 yX1_power wsX1_power) := goodIn_app (goodIn_of _ (by decide +kernel)) ggL_law_X1_power
set_option maxRecDepth 20000 in
theorem ggL_law_X2_power : GoodIn wsL_law wsX2_power := goodIn_r _ [323, 276, 277, 278, 5, 279, 142, 44, 38, 280, 281, 282, 283, 43, 284, 285, 286, 287, 45, 42, 41, 324, 325, 326, 327, 296, 297, 298, 299, 141, 710, 711, 712, 713, 714, 715, 716, 717, 718, 719] (by decide +kernel) (by decide +kernel)
set_option maxRecDepth 20000 in
theorem gL_law_X2_power : GoodIn wsL_law (wsV RL 135 RX2 yX2_power wsX2_power) := goodIn_app (goodIn_of _ (by decide +kernel)) ggL_law_X2_power
set_option maxRecDepth 20000 in
theorem ggL_law_L_phaseOf : GoodIn wsL_law wsL_phaseOf := goodIn_ca (goodIn_r _ [330, 160, 331, 332, 333, 2, 334, 17, 167, 168, 169, 170, 171, 172, 16, 173, 67, 68, 69, 15, 70, 71, 174, 175, 176, 177, 178, 179, 180, 181, 182, 183, 184, 185, 186, 187, 188, 189, 23, 335, 265, 266, 61, 267, 77, 80, 707, 708, 709, 720, 721, 722, 723, 724, 725, 726, 727, 728, 729, 730, 731] (by decide +kernel) (by decide +kernel)) (goodIn_sub (fun _ h => List.mem_append_right _ h) (by decide +kernel))
set_option maxRecDepth 20000 in
theorem gL_law_L_phaseOf : GoodIn wsL_law (va_wsS RL 136 yL_phaseOf wsL_phaseOf) := goodIn_app (goodIn_of _ (by decide +kernel)) ggL_law_L_phaseOf
set_option maxRecDepth 20000 in
theorem ggL_law_X2_phaseOf : GoodIn wsL_law wsX2_phaseOf := goodIn_r _ [339, 141, 194, 195, 196, 5, 197, 142, 146, 147, 148, 284, 285, 286, 287, 45, 42, 41, 149, 150, 151, 152, 710, 711, 712, 713, 714, 715, 716, 717, 718, 719] (by decide +kernel) (by decide +kernel)
set_option maxRecDepth 20000 in
theorem gL_law_X2_phaseOf : GoodIn wsL_law (wsV RL 138 RX2 yX2_phaseOf wsX2_phaseOf) := goodIn_app (goodIn_of _ (by decide +kernel)) ggL_law_X2_phaseOf
set_option maxRecDepth 20000 in
theorem ggL_law_L_isDue : GoodIn wsL_law wsL_isDue := goodIn_ca (goodIn_r _ [342, 160, 343, 344, 345, 2, 346, 17, 167, 168, 169, 170, 171, 172, 16, 173, 67, 68, 69, 15, 70, 71, 174, 175, 176, 177, 178, 179, 180, 181, 182, 183, 184, 185, 186, 187, 188, 189, 23, 260, 261, 262, 61, 263, 78, 264, 265, 266, 267, 77, 80, 707, 708, 709, 720, 721, 722, 723, 724, 725, 726, 727, 728, 729, 730, 731] (by decide +kernel) (by decide +kernel)) (goodIn_sub (fun _ h => List.mem_append_right _ h) (by decide +kernel))
set_option maxRecDepth 20000 in
theorem gL_law_L_isDue : GoodIn wsL_law (va_wsS RL 139 yL_isDue wsL_isDue) := goodIn_app (goodIn_of _ (by decide +kernel)) ggL_law_L_isDue
set_option maxRecDepth 20000 in
theorem ggL_law_X2_isDue : GoodIn wsL_law wsX2_isDue := goodIn_r _ [350, 141, 194, 195, 196, 5, 197, 142, 146, 147, 148, 280, 281, 282, 283, 43, 284, 285, 286, 287, 45, 42, 41, 226, 227, 228, 229, 710, 711, 712, 713, 714, 715, 716, 717, 718, 719] (by decide +kernel) (by decide +kernel)
set_option maxRecDepth 20000 in
theorem gL_law_X2_isDue : GoodIn wsL_law (wsV RL 141 RX2 yX2_isDue wsX2_isDue) := goodIn_app (goodIn_of _ (by decide +kernel)) ggL_law_X2_isDue
set_option maxRecDepth 20000 in
theorem ggL_law_L_shines : GoodIn wsL_law wsL_shines := goodIn_ca (goodIn_r _ [353, 160, 354, 355, 356, 2, 357, 17, 252, 167, 168, 169, 170, 171, 172, 16, 173, 67, 68, 69, 15, 70, 71, 174, 175, 176, 177, 178, 179, 180, 181, 182, 183, 184, 185, 186, 187, 188, 189, 23, 255, 256, 257, 258, 259, 18, 260, 261, 262, 61, 263, 78, 264, 265, 266, 267, 77, 80, 707, 708, 709, 723, 724, 725, 726, 727, 728, 729, 730, 731, 720, 721, 722] (by decide +kernel) (by decide +kernel)) (goodIn_sub (fun _ h => List.mem_append_right _ h) (by decide +kernel))
set_option maxRecDepth 20000 in
theorem gL_law_L_shines : GoodIn wsL_law (va_wsS RL 142 yL_shines wsL_shines) := goodIn_app (goodIn_of _ (by decide +kernel)) ggL_law_L_shines
set_option maxRecDepth 20000 in
theorem ggL_law_X2_shines : GoodIn wsL_law wsX2_shines := goodIn_r _ [361, 141, 194, 195, 196, 5, 197, 142, 146, 147, 148, 362, 363, 364, 365, 276, 277, 278, 279, 44, 38, 280, 281, 282, 283, 43, 284, 285, 286, 287, 45, 42, 41, 226, 227, 228, 229, 710, 711, 712, 713, 714, 715, 716, 717, 718, 719] (by decide +kernel) (by decide +kernel)
set_option maxRecDepth 20000 in
theorem gL_law_X2_shines : GoodIn wsL_law (wsV RL 144 RX2 yX2_shines wsX2_shines) := goodIn_app (goodIn_of _ (by decide +kernel)) ggL_law_X2_shines
set_option maxRecDepth 20000 in
theorem ggL_law_L_colourOf : GoodIn wsL_law wsL_colourOf := goodIn_ca (goodIn_r _ [368, 160, 369, 370, 371, 2, 372, 217, 167, 168, 169, 170, 171, 172, 16, 173, 67, 68, 69, 15, 70, 71, 174, 175, 176, 177, 178, 179, 180, 181, 182, 183, 184, 185, 186, 187, 188, 189, 23, 723, 724, 725, 726, 727, 728, 729, 730, 731, 707, 708, 709, 720, 721, 722] (by decide +kernel) (by decide +kernel)) (goodIn_sub (fun _ h => List.mem_append_right _ h) (by decide +kernel))
set_option maxRecDepth 20000 in
theorem gL_law_L_colourOf : GoodIn wsL_law (va_wsS RL 145 yL_colourOf wsL_colourOf) := goodIn_app (goodIn_of _ (by decide +kernel)) ggL_law_L_colourOf
set_option maxRecDepth 20000 in
theorem ggL_law_X2_colourOf : GoodIn wsL_law wsX2_colourOf := goodIn_r _ [376, 40, 377, 378, 379, 5, 380, 141, 194, 195, 196, 197, 142, 146, 147, 148, 149, 150, 151, 152, 710, 711, 712, 713, 714, 715, 716, 717, 718, 719] (by decide +kernel) (by decide +kernel)
set_option maxRecDepth 20000 in
theorem gL_law_X2_colourOf : GoodIn wsL_law (wsV RL 147 RX2 yX2_colourOf wsX2_colourOf) := goodIn_app (goodIn_of _ (by decide +kernel)) ggL_law_X2_colourOf
set_option maxRecDepth 20000 in
theorem ggL_law_L_shiftOf : GoodIn wsL_law wsL_shiftOf := goodIn_ca (goodIn_r _ [383, 160, 384, 385, 386, 2, 387, 166, 167, 168, 169, 170, 171, 172, 16, 173, 67, 68, 69, 15, 70, 71, 174, 175, 176, 177, 178, 179, 180, 181, 182, 183, 184, 185, 186, 187, 188, 189, 23, 723, 724, 725, 726, 727, 728, 729, 730, 731, 707, 708, 709, 720, 721, 722] (by decide +kernel) (by decide +kernel)) (goodIn_sub (fun _ h => List.mem_append_right _ h) (by decide +kernel))
set_option maxRecDepth 20000 in
theorem gL_law_L_shiftOf : GoodIn wsL_law (va_wsS RL 148 yL_shiftOf wsL_shiftOf) := goodIn_app (goodIn_of _ (by decide +kernel)) ggL_law_L_shiftOf
set_option maxRecDepth 20000 in
theorem ggL_law_X2_shiftOf : GoodIn wsL_law wsX2_shiftOf := goodIn_r _ [391, 42, 377, 378, 379, 5, 380, 141, 194, 195, 196, 197, 142, 146, 147, 148, 149, 150, 151, 152, 710, 711, 712, 713, 714, 715, 716, 717, 718, 719] (by decide +kernel) (by decide +kernel)
set_option maxRecDepth 20000 in
theorem gL_law_X2_shiftOf : GoodIn wsL_law (wsV RL 150 RX2 yX2_shiftOf wsX2_shiftOf) := goodIn_app (goodIn_of _ (by decide +kernel)) ggL_law_X2_shiftOf
set_option maxRecDepth 20000 in
theorem ggL_law_L_shone : GoodIn wsL_law wsL_shone := goodIn_ca (goodIn_r _ [394, 160, 395, 396, 397, 2, 398, 253, 167, 168, 169, 170, 171, 172, 16, 173, 67, 68, 69, 15, 70, 71, 174, 175, 176, 177, 178, 179, 180, 181, 182, 183, 184, 185, 186, 187, 188, 189, 23, 723, 724, 725, 726, 727, 728, 729, 730, 731, 707, 708, 709, 720, 721, 722] (by decide +kernel) (by decide +kernel)) (goodIn_sub (fun _ h => List.mem_append_right _ h) (by decide +kernel))
set_option maxRecDepth 20000 in
theorem gL_law_L_shone : GoodIn wsL_law (va_wsS RL 151 yL_shone wsL_shone) := goodIn_app (goodIn_of _ (by decide +kernel)) ggL_law_L_shone
set_option maxRecDepth 20000 in
theorem ggL_law_X2_shone : GoodIn wsL_law wsX2_shone := goodIn_r _ [402, 141, 45, 194, 195, 196, 5, 197, 142, 146, 147, 148, 149, 150, 151, 152, 710, 711, 712, 713, 714, 715, 716, 717, 718, 719] (by decide +kernel) (by decide +kernel)
set_option maxRecDepth 20000 in
theorem gL_law_X2_shone : GoodIn wsL_law (wsV RL 153 RX2 yX2_shone wsX2_shone) := goodIn_app (goodIn_of _ (by decide +kernel)) ggL_law_X2_shone
set_option maxRecDepth 20000 in
theorem ggL_law_L_stayedDark : GoodIn wsL_law wsL_stayedDark := goodIn_ca (goodIn_r _ [405, 160, 406, 407, 408, 2, 409, 254, 167, 168, 169, 170, 171, 172, 16, 173, 67, 68, 69, 15, 70, 71, 174, 175, 176, 177, 178, 179, 180, 181, 182, 183, 184, 185, 186, 187, 188, 189, 23, 723, 724, 725, 726, 727, 728, 729, 730, 731, 707, 708, 709, 720, 721, 722] (by decide +kernel) (by decide +kernel)) (goodIn_sub (fun _ h => List.mem_append_right _ h) (by decide +kernel))
set_option maxRecDepth 20000 in
theorem gL_law_L_stayedDark : GoodIn wsL_law (va_wsS RL 154 yL_stayedDark wsL_stayedDark) := goodIn_app (goodIn_of _ (by decide +kernel)) ggL_law_L_stayedDark
set_option maxRecDepth 20000 in
theorem ggL_law_X2_stayedDark : GoodIn wsL_law wsX2_stayedDark := goodIn_r _ [413, 141, 45, 194, 195, 196, 5, 197, 142, 146, 147, 148, 149, 150, 151, 152, 710, 711, 712, 713, 714, 715, 716, 717, 718, 719] (by decide +kernel) (by decide +kernel)
set_option maxRecDepth 20000 in
theorem gL_law_X2_stayedDark : GoodIn wsL_law (wsV RL 156 RX2 yX2_stayedDark wsX2_stayedDark) := goodIn_app (goodIn_of _ (by decide +kernel)) ggL_law_X2_stayedDark
set_option maxRecDepth 20000 in
theorem ggL_law_L_seen : GoodIn wsL_law wsL_seen := goodIn_ca (goodIn_r _ [416, 51, 417, 418, 419, 2, 420, 16, 173, 217, 253, 62, 63, 64, 65, 66, 67, 68, 69, 15, 70, 71, 174, 175, 176, 177, 178, 179, 180, 181, 182, 183, 184, 185, 186, 187, 188, 189, 23, 707, 708, 709, 723, 724, 725, 726, 727, 728, 729, 730, 731, 720, 721, 722] (by decide +kernel) (by decide +kernel)) (goodIn_sub (fun _ h => List.mem_append_left _ (List.mem_append_right _ h)) (by decide +kernel))
set_option maxRecDepth 20000 in
theorem gL_law_L_seen : GoodIn wsL_law (va_wsS RL 157 yL_seen wsL_seen) := goodIn_app (goodIn_of _ (by decide +kernel)) ggL_law_L_seen
set_option maxRecDepth 20000 in
theorem ggL_law_X2_seen : GoodIn wsL_law wsX2_seen := goodIn_r _ [424, 141, 143, 144, 5, 145, 146, 147, 148, 425, 426, 427, 428, 142, 40, 45, 149, 150, 151, 152, 710, 711, 712, 713, 714, 715, 716, 717, 718, 719] (by decide +kernel) (by decide +kernel)
set_option maxRecDepth 20000 in
theorem gL_law_X2_seen : GoodIn wsL_law (wsV RL 159 RX2 yX2_seen wsX2_seen) := goodIn_app (goodIn_of _ (by decide +kernel)) ggL_law_X2_seen
set_option maxRecDepth 20000 in
theorem ggL_law_X1_unfairness : GoodIn wsL_law wsX1_unfairness := goodIn_r _ [432, 433, 434, 435, 2, 436, 16, 173, 253, 437, 17, 67, 68, 69, 15, 70, 71, 174, 175, 176, 177, 178, 179, 180, 181, 182, 183, 184, 185, 186, 187, 188, 189, 23, 438, 439, 440, 441, 252, 255, 256, 257, 258, 259, 18, 260, 261, 262, 61, 263, 78, 264, 265, 266, 267, 77, 80, 442, 443, 444, 445, 446, 104, 105, 106, 447, 131, 132, 448, 449, 450, 451, 217, 707, 708, 709, 723, 724, 725, 726, 727, 728, 729, 730, 731, 720, 721, 722] (by decide +kernel) (by decide +kernel)
set_option maxRecDepth 20000 in
theorem gL_law_X1_unfairness : GoodIn wsL_law (wsV RL 160 RX1 yX1_unfairness wsX1_unfairness) := goodIn_app (goodIn_of _ (by decide +kernel)) ggL_law_X1_unfairness
set_option maxRecDepth 20000 in
theorem ggL_law_X2_unfairness : GoodIn wsL_law wsX2_unfairness := goodIn_r _ [455, 456, 457, 458, 5, 459, 142, 40, 460, 104, 105, 106, 461, 131, 132, 425, 426, 427, 428, 45, 296, 297, 298, 299, 141, 710, 711, 712, 713, 714, 715, 716, 717, 718, 719] (by decide +kernel) (by decide +kernel)
set_option maxRecDepth 20000 in
theorem gL_law_X2_unfairness : GoodIn wsL_law (wsV RL 163 RX2 yX2_unfairness wsX2_unfairness) := goodIn_app (goodIn_of _ (by decide +kernel)) ggL_law_X2_unfairness
set_option maxRecDepth 20000 in
theorem ggL_law_X1_together : GoodIn wsL_law wsX1_together := goodIn_r _ [465, 16, 173, 165, 67, 68, 69, 15, 70, 71, 174, 175, 176, 177, 178, 179, 180, 181, 182, 183, 184, 185, 186, 187, 188, 189, 23, 466, 467, 2, 468, 469, 470, 471, 707, 708, 709, 723, 724, 725, 726, 727, 728, 729, 730, 731, 720, 721, 722] (by decide +kernel) (by decide +kernel)
set_option maxRecDepth 20000 in
theorem gL_law_X1_together : GoodIn wsL_law (wsV RL 164 RX1 yX1_together wsX1_together) := goodIn_app (goodIn_of _ (by decide +kernel)) ggL_law_X1_together
set_option maxRecDepth 20000 in
theorem ggL_law_X2_together : GoodIn wsL_law wsX2_together := goodIn_r _ [475, 141, 476, 477, 478, 5, 479, 142, 41, 480, 481, 482, 710, 711, 712, 713, 714, 715, 716, 717, 718, 719] (by decide +kernel) (by decide +kernel)
set_option maxRecDepth 20000 in
theorem gL_law_X2_together : GoodIn wsL_law (wsV RL 168 RX2 yX2_together wsX2_together) := goodIn_app (goodIn_of _ (by decide +kernel)) ggL_law_X2_together
set_option maxRecDepth 20000 in
theorem ggL_law_L_divisor : GoodIn wsL_law wsL_divisor := goodIn_ca (goodIn_r _ [485, 160, 486, 487, 488, 2, 489, 165, 167, 168, 169, 170, 171, 172, 16, 173, 67, 68, 69, 15, 70, 71, 174, 175, 176, 177, 178, 179, 180, 181, 182, 183, 184, 185, 186, 187, 188, 189, 23, 490, 491, 492, 469, 470, 471, 723, 724, 725, 726, 727, 728, 729, 730, 731, 707, 708, 709, 720, 721, 722] (by decide +kernel) (by decide +kernel)) (goodIn_sub (fun _ h => List.mem_append_right _ h) (by decide +kernel))
set_option maxRecDepth 20000 in
theorem gL_law_L_divisor : GoodIn wsL_law (va_wsS RL 169 yL_divisor wsL_divisor) := goodIn_app (goodIn_of _ (by decide +kernel)) ggL_law_L_divisor
set_option maxRecDepth 20000 in
theorem ggL_law_X2_divisor : GoodIn wsL_law wsX2_divisor := goodIn_r _ [496, 141, 41, 222, 223, 224, 5, 225, 194, 195, 196, 197, 142, 146, 147, 148, 480, 481, 482, 149, 150, 151, 152, 710, 711, 712, 713, 714, 715, 716, 717, 718, 719] (by decide +kernel) (by decide +kernel)
set_option maxRecDepth 20000 in
theorem gL_law_X2_divisor : GoodIn wsL_law (wsV RL 171 RX2 yX2_divisor wsX2_divisor) := goodIn_app (goodIn_of _ (by decide +kernel)) ggL_law_X2_divisor
set_option maxRecDepth 20000 in
theorem ggL_law_L_meet : GoodIn wsL_law wsL_meet := goodIn_ca (goodIn_r _ [499, 160, 500, 501, 502, 2, 503, 166, 167, 168, 169, 170, 171, 172, 16, 173, 67, 68, 69, 15, 70, 71, 174, 175, 176, 177, 178, 179, 180, 181, 182, 183, 184, 185, 186, 187, 188, 189, 23, 504, 505, 506, 165, 490, 491, 492, 469, 470, 471, 723, 724, 725, 726, 727, 728, 729, 730, 731, 707, 708, 709, 720, 721, 722] (by decide +kernel) (by decide +kernel)) (goodIn_sub (fun _ h => List.mem_append_right _ h) (by decide +kernel))
set_option maxRecDepth 20000 in
theorem gL_law_L_meet : GoodIn wsL_law (va_wsS RL 172 yL_meet wsL_meet) := goodIn_app (goodIn_of _ (by decide +kernel)) ggL_law_L_meet
set_option maxRecDepth 20000 in
theorem ggL_law_X2_meet : GoodIn wsL_law wsX2_meet := goodIn_r _ [510, 141, 42, 222, 223, 224, 5, 225, 194, 195, 196, 197, 142, 146, 147, 148, 511, 512, 513, 514, 41, 480, 481, 482, 226, 227, 228, 229, 710, 711, 712, 713, 714, 715, 716, 717, 718, 719] (by decide +kernel) (by decide +kernel)
set_option maxRecDepth 20000 in
theorem gL_law_X2_meet : GoodIn wsL_law (wsV RL 174 RX2 yX2_meet wsX2_meet) := goodIn_app (goodIn_of _ (by decide +kernel)) ggL_law_X2_meet
set_option maxRecDepth 20000 in
theorem ggL_law_L_beatsUntilMeet : GoodIn wsL_law wsL_beatsUntilMeet := goodIn_ca (goodIn_r _ [517, 160, 518, 519, 520, 2, 521, 17, 165, 167, 168, 169, 170, 171, 172, 16, 173, 67, 68, 69, 15, 70, 71, 174, 175, 176, 177, 178, 179, 180, 181, 182, 183, 184, 185, 186, 187, 188, 189, 23, 522, 523, 524, 61, 525, 77, 264, 265, 266, 267, 80, 526, 527, 528, 529, 707, 708, 709, 723, 724, 725, 726, 727, 728, 729, 730, 731, 720, 721, 722] (by decide +kernel) (by decide +kernel)) (goodIn_sub (fun _ h => List.mem_append_right _ h) (by decide +kernel))
set_option maxRecDepth 20000 in
theorem gL_law_L_beatsUntilMeet : GoodIn wsL_law (va_wsS RL 175 yL_beatsUntilMeet wsL_beatsUntilMeet) := goodIn_app (goodIn_of _ (by decide +kernel)) ggL_law_L_beatsUntilMeet
set_option maxRecDepth 20000 in
theorem ggL_law_X2_beatsUntilMeet : GoodIn wsL_law wsX2_beatsUntilMeet := goodIn_r _ [533, 141, 222, 223, 224, 5, 225, 194, 195, 196, 197, 142, 146, 147, 148, 534, 535, 536, 537, 42, 41, 511, 512, 513, 514, 480, 481, 482, 284, 285, 286, 287, 45, 149, 150, 151, 152, 710, 711, 712, 713, 714, 715, 716, 717, 718, 719] (by decide +kernel) (by decide +kernel)
set_option maxRecDepth 20000 in
theorem gL_law_X2_beatsUntilMeet : GoodIn wsL_law (wsV RL 177 RX2 yX2_beatsUntilMeet wsX2_beatsUntilMeet) := goodIn_app (goodIn_of _ (by decide +kernel)) ggL_law_X2_beatsUntilMeet
set_option maxRecDepth 20000 in
theorem ggL_law_L_meets : GoodIn wsL_law wsL_meets := goodIn_ca (goodIn_r _ [540, 160, 541, 542, 543, 2, 544, 166, 167, 168, 169, 170, 171, 172, 16, 173, 67, 68, 69, 15, 70, 71, 174, 175, 176, 177, 178, 179, 180, 181, 182, 183, 184, 185, 186, 187, 188, 189, 23, 545, 546, 547, 548, 504, 505, 506, 165, 490, 491, 492, 469, 470, 471, 723, 724, 725, 726, 727, 728, 729, 730, 731, 707, 708, 709, 720, 721, 722] (by decide +kernel) (by decide +kernel)) (goodIn_sub (fun _ h => List.mem_append_right _ h) (by decide +kernel))
set_option maxRecDepth 20000 in
theorem gL_law_L_meets : GoodIn wsL_law (va_wsS RL 178 yL_meets wsL_meets) := goodIn_app (goodIn_of _ (by decide +kernel)) ggL_law_L_meets
set_option maxRecDepth 20000 in
theorem ggL_law_X2_meets : GoodIn wsL_law wsX2_meets := goodIn_r _ [552, 141, 42, 194, 195, 196, 5, 197, 142, 146, 147, 148, 553, 554, 555, 556, 511, 512, 513, 514, 41, 480, 481, 482, 149, 150, 151, 152, 710, 711, 712, 713, 714, 715, 716, 717, 718, 719] (by decide +kernel) (by decide +kernel)
set_option maxRecDepth 20000 in
theorem gL_law_X2_meets : GoodIn wsL_law (wsV RL 180 RX2 yX2_meets wsX2_meets) := goodIn_app (goodIn_of _ (by decide +kernel)) ggL_law_X2_meets
set_option maxRecDepth 20000 in
theorem ggL_law_X1_apart : GoodIn wsL_law wsX1_apart := goodIn_r _ [560, 16, 173, 166, 67, 68, 69, 15, 70, 71, 174, 175, 176, 177, 178, 179, 180, 181, 182, 183, 184, 185, 186, 187, 188, 189, 23, 504, 505, 2, 506, 165, 490, 491, 492, 469, 470, 471, 707, 708, 709, 723, 724, 725, 726, 727, 728, 729, 730, 731, 720, 721, 722] (by decide +kernel) (by decide +kernel)
set_option maxRecDepth 20000 in
theorem gL_law_X1_apart : GoodIn wsL_law (wsV RL 181 RX1 yX1_apart wsX1_apart) := goodIn_app (goodIn_of _ (by decide +kernel)) ggL_law_X1_apart
set_option maxRecDepth 20000 in
theorem ggL_law_X2_apart : GoodIn wsL_law wsX2_apart := goodIn_r _ [564, 565, 566, 567, 5, 568, 142, 42, 553, 554, 555, 556, 511, 512, 513, 514, 41, 480, 481, 482, 296, 297, 298, 299, 141, 710, 711, 712, 713, 714, 715, 716, 717, 718, 719] (by decide +kernel) (by decide +kernel)
set_option maxRecDepth 20000 in
theorem gL_law_X2_apart : GoodIn wsL_law (wsV RL 184 RX2 yX2_apart wsX2_apart) := goodIn_app (goodIn_of _ (by decide +kernel)) ggL_law_X2_apart
set_option maxRecDepth 20000 in
theorem ggL_law_L_bestShift : GoodIn wsL_law wsL_bestShift := goodIn_ca (goodIn_r _ [571, 160, 572, 573, 574, 2, 575, 165, 167, 168, 169, 170, 171, 172, 16, 173, 67, 68, 69, 15, 70, 71, 174, 175, 176, 177, 178, 179, 180, 181, 182, 183, 184, 185, 186, 187, 188, 189, 23, 545, 546, 547, 548, 504, 505, 506, 166, 490, 491, 492, 469, 470, 471, 723, 724, 725, 726, 727, 728, 729, 730, 731, 707, 708, 709, 720, 721, 722] (by decide +kernel) (by decide +kernel)) (goodIn_sub (fun _ h => List.mem_append_right _ h) (by decide +kernel))
set_option maxRecDepth 20000 in
theorem gL_law_L_bestShift : GoodIn wsL_law (va_wsS RL 185 yL_bestShift wsL_bestShift) := goodIn_app (goodIn_of _ (by decide +kernel)) ggL_law_L_bestShift
set_option maxRecDepth 20000 in
theorem ggL_law_X2_bestShift : GoodIn wsL_law wsX2_bestShift := goodIn_r _ [579, 141, 194, 195, 196, 5, 197, 142, 146, 147, 148, 580, 581, 582, 583, 41, 553, 554, 555, 556, 511, 512, 513, 514, 42, 480, 481, 482, 149, 150, 151, 152, 710, 711, 712, 713, 714, 715, 716, 717, 718, 719] (by decide +kernel) (by decide +kernel)
set_option maxRecDepth 20000 in
theorem gL_law_X2_bestShift : GoodIn wsL_law (wsV RL 187 RX2 yX2_bestShift wsX2_bestShift) := goodIn_app (goodIn_of _ (by decide +kernel)) ggL_law_X2_bestShift
set_option maxRecDepth 20000 in
theorem ggL_law_L_dueIn : GoodIn wsL_law wsL_dueIn := goodIn_ca (goodIn_ca (goodIn_r _ [586, 160, 51, 587, 588, 589, 2, 590, 591, 17, 167, 168, 169, 170, 171, 172, 16, 173, 67, 68, 69, 15, 70, 71, 174, 175, 176, 177, 178, 179, 180, 181, 182, 183, 184, 185, 186, 187, 188, 189, 23, 62, 63, 64, 65, 66, 592, 593, 594, 61, 595, 77, 78, 596, 261, 262, 263, 264, 265, 266, 267, 80, 707, 708, 709, 720, 721, 722, 723, 724, 725, 726, 727, 728, 729, 730, 731] (by decide +kernel) (by decide +kernel)) (goodIn_sub (fun _ h => List.mem_append_right _ h) (by decide +kernel))) (goodIn_sub (fun _ h => List.mem_append_left _ (List.mem_append_right _ h)) (by decide +kernel))
set_option maxRecDepth 20000 in
theorem gL_law_L_dueIn : GoodIn wsL_law (va_wsS RL 188 yL_dueIn wsL_dueIn) := goodIn_app (goodIn_of _ (by decide +kernel)) ggL_law_L_dueIn
set_option maxRecDepth 20000 in
theorem ggL_law_X2_dueIn_ : GoodIn wsL_law wsX2_dueIn_ := goodIn_r _ [600, 141, 601, 194, 195, 196, 5, 197, 142, 146, 147, 148, 149, 150, 151, 152, 602, 603, 604, 605, 41, 43, 284, 285, 286, 287, 45, 42, 710, 711, 712, 713, 714, 715, 716, 717, 718, 719] (by decide +kernel) (by decide +kernel)
set_option maxRecDepth 20000 in
theorem gL_law_X2_dueIn_ : GoodIn wsL_law (wsV RL 190 RX2 yX2_dueIn_ wsX2_dueIn_) := goodIn_app (goodIn_of _ (by decide +kernel)) ggL_law_X2_dueIn_
set_option maxRecDepth 20000 in
theorem ggL_law_L_brightest : GoodIn wsL_law wsL_brightest := goodIn_ca (goodIn_r _ [608, 51, 609, 610, 611, 2, 612, 17, 446, 104, 105, 106, 62, 63, 64, 65, 66, 255, 256, 257, 258, 16, 173, 259, 18, 252, 67, 68, 69, 15, 70, 71, 174, 175, 176, 177, 178, 179, 180, 181, 182, 183, 184, 185, 186, 187, 188, 189, 23, 260, 261, 262, 61, 263, 78, 264, 265, 266, 267, 77, 80, 707, 708, 709, 723, 724, 725, 726, 727, 728, 729, 730, 731, 720, 721, 722] (by decide +kernel) (by decide +kernel)) (goodIn_sub (fun _ h => List.mem_append_left _ (List.mem_append_right _ h)) (by decide +kernel))
set_option maxRecDepth 20000 in
theorem gL_law_L_brightest : GoodIn wsL_law (va_wsS RL 191 yL_brightest wsL_brightest) := goodIn_app (goodIn_of _ (by decide +kernel)) ggL_law_L_brightest
set_option maxRecDepth 20000 in
theorem ggL_law_X2_brightest : GoodIn wsL_law wsX2_brightest := goodIn_r _ [616, 141, 146, 147, 5, 148, 617, 618, 619, 620, 38, 460, 104, 105, 106, 45, 621, 622, 623, 624, 46, 625, 134, 135, 136, 276, 277, 278, 279, 142, 44, 280, 281, 282, 283, 43, 284, 285, 286, 287, 42, 41, 324, 325, 326, 327, 626, 627, 628, 629, 149, 150, 151, 152, 710, 711, 712, 713, 714, 715, 716, 717, 718, 719] (by decide +kernel) (by decide +kernel)
set_option maxRecDepth 20000 in
theorem gL_law_X2_brightest : GoodIn wsL_law (wsV RL 193 RX2 yX2_brightest wsX2_brightest) := goodIn_app (goodIn_of _ (by decide +kernel)) ggL_law_X2_brightest
set_option maxRecDepth 20000 in
theorem ggL_law_L_unfairnessIn : GoodIn wsL_law wsL_unfairnessIn := goodIn_ca (goodIn_r _ [632, 51, 633, 634, 635, 2, 636, 62, 63, 64, 65, 66, 433, 434, 435, 436, 16, 173, 253, 437, 17, 67, 68, 69, 15, 70, 71, 174, 175, 176, 177, 178, 179, 180, 181, 182, 183, 184, 185, 186, 187, 188, 189, 23, 438, 439, 440, 441, 252, 255, 256, 257, 258, 259, 18, 260, 261, 262, 61, 263, 78, 264, 265, 266, 267, 77, 80, 442, 443, 444, 445, 446, 104, 105, 106, 447, 131, 132, 448, 449, 450, 451, 217, 707, 708, 709, 723, 724, 725, 726, 727, 728, 729, 730, 731, 720, 721, 722] (by decide +kernel) (by decide +kernel)) (goodIn_sub (fun _ h => List.mem_append_left _ (List.mem_append_right _ h)) (by decide +kernel))
set_option maxRecDepth 20000 in
theorem gL_law_L_unfairnessIn : GoodIn wsL_law (va_wsS RL 194 yL_unfairnessIn wsL_unfairnessIn) := goodIn_app (goodIn_of _ (by decide +kernel)) ggL_law_L_unfairnessIn
set_option maxRecDepth 20000 in
theorem ggL_law_X2_unfairnessIn : GoodIn wsL_law wsX2_unfairnessIn := goodIn_r _ [640, 141, 146, 147, 5, 148, 641, 642, 643, 644, 621, 622, 623, 624, 45, 46, 625, 134, 135, 136, 272, 273, 274, 275, 142, 276, 277, 278, 279, 44, 38, 280, 281, 282, 283, 43, 284, 285, 286, 287, 42, 41, 456, 457, 458, 459, 40, 460, 104, 105, 106, 461, 131, 132, 425, 426, 427, 428, 626, 627, 628, 629, 149, 150, 151, 152, 710, 711, 712, 713, 714, 715, 716, 717, 718, 719] (by decide +kernel) (by decide +kernel)
set_option maxRecDepth 20000 in
theorem gL_law_X2_unfairnessIn : GoodIn wsL_law (wsV RL 196 RX2 yX2_unfairnessIn wsX2_unfairnessIn) := goodIn_app (goodIn_of _ (by decide +kernel)) ggL_law_X2_unfairnessIn
set_option maxRecDepth 20000 in
theorem ggL_law_L_limitWanted : GoodIn wsL_law wsL_limitWanted := goodIn_ca (goodIn_r _ [647, 51, 648, 649, 650, 2, 651, 17, 446, 104, 105, 106, 62, 63, 64, 65, 66, 652, 653, 654, 655, 16, 173, 259, 67, 68, 69, 15, 70, 71, 174, 175, 176, 177, 178, 179, 180, 181, 182, 183, 184, 185, 186, 187, 188, 189, 23, 260, 261, 262, 61, 263, 78, 264, 265, 266, 267, 77, 80, 707, 708, 709, 723, 724, 725, 726, 727, 728, 729, 730, 731, 720, 721, 722] (by decide +kernel) (by decide +kernel)) (goodIn_sub (fun _ h => List.mem_append_left _ (List.mem_append_right _ h)) (by decide +kernel))
set_option maxRecDepth 20000 in
theorem gL_law_L_limitWanted : GoodIn wsL_law (va_wsS RL 197 yL_limitWanted wsL_limitWanted) := goodIn_app (goodIn_of _ (by decide +kernel)) ggL_law_L_limitWanted
set_option maxRecDepth 20000 in
theorem ggL_law_X2_limitWanted : GoodIn wsL_law wsX2_limitWanted := goodIn_r _ [659, 141, 146, 147, 5, 148, 617, 618, 619, 620, 38, 460, 104, 105, 106, 45, 621, 622, 623, 624, 46, 625, 134, 135, 136, 276, 277, 278, 279, 142, 44, 280, 281, 282, 283, 43, 284, 285, 286, 287, 42, 41, 324, 325, 326, 327, 626, 627, 628, 629, 149, 150, 151, 152, 710, 711, 712, 713, 714, 715, 716, 717, 718, 719] (by decide +kernel) (by decide +kernel)
set_option maxRecDepth 20000 in
theorem gL_law_X2_limitWanted : GoodIn wsL_law (wsV RL 199 RX2 yX2_limitWanted wsX2_limitWanted) := goodIn_app (goodIn_of _ (by decide +kernel)) ggL_law_X2_limitWanted
set_option maxRecDepth 20000 in
theorem ggL_law_X1_meanShone : GoodIn wsL_law wsX1_meanShone := goodIn_r _ [663, 16, 173, 253, 67, 68, 69, 15, 70, 71, 174, 175, 176, 177, 178, 179, 180, 181, 182, 183, 184, 185, 186, 187, 188, 189, 23, 707, 708, 709, 723, 724, 725, 726, 727, 728, 729, 730, 731, 720, 721, 722] (by decide +kernel) (by decide +kernel)
set_option maxRecDepth 20000 in
theorem gL_law_X1_meanShone : GoodIn wsL_law (wsV RL 200 RX1 yX1_meanShone wsX1_meanShone) := goodIn_app (goodIn_of _ (by decide +kernel)) ggL_law_X1_meanShone
set_option maxRecDepth 20000 in
theorem ggL_law_X2_meanShone : GoodIn wsL_law wsX2_meanShone := goodIn_r _ [667, 141, 142, 45, 710, 711, 712, 713, 714, 715, 716, 717, 718, 719] (by decide +kernel) (by decide +kernel)
set_option maxRecDepth 20000 in
theorem gL_law_X2_meanShone : GoodIn wsL_law (wsV RL 204 RX2 yX2_meanShone wsX2_meanShone) := goodIn_app (goodIn_of _ (by decide +kernel)) ggL_law_X2_meanShone
set_option maxRecDepth 20000 in
theorem ggL_law_X1_digest : GoodIn wsL_law wsX1_digest := goodIn_ca (goodIn_ca (goodIn_r _ [671, 672, 16, 673, 289, 290, 2, 291, 17, 674, 675, 676, 677, 678, 301, 302, 303, 67, 68, 69, 15, 70, 71, 679, 309, 310, 311, 18, 680, 317, 318, 319, 255, 256, 257, 258, 173, 259, 252, 174, 175, 176, 177, 178, 179, 180, 181, 182, 183, 184, 185, 186, 187, 188, 189, 23, 260, 261, 262, 61, 263, 78, 264, 265, 266, 267, 77, 80, 681, 430, 431, 432, 433, 434, 435, 436, 253, 437, 438, 439, 440, 441, 442, 443, 444, 445, 446, 104, 105, 106, 447, 131, 132, 448, 449, 450, 451, 217, 682, 463, 464, 465, 165, 466, 467, 468, 469, 470, 471, 683, 558, 559, 560, 166, 504, 505, 506, 490, 491, 492, 684, 610, 611, 612, 62, 63, 64, 65, 66, 685, 634, 635, 636, 686, 649, 650, 651, 652, 653, 654, 655, 687, 688, 689, 690, 691, 332, 333, 334, 167, 168, 169, 170, 171, 172, 335, 692, 344, 345, 346, 693, 355, 356, 357, 694, 370, 371, 372, 695, 396, 397, 398, 696, 407, 408, 409, 254, 697, 542, 543, 544, 545, 546, 547, 548, 698, 573, 574, 575, 699, 519, 520, 521, 522, 523, 524, 525, 526, 527, 528, 529, 700, 418, 419, 420, 707, 708, 709, 720, 721, 722, 723, 724, 725, 726, 727, 728, 729, 730, 731] (by decide +kernel) (by decide +kernel)) (goodIn_sub (fun _ h => List.mem_append_left _ (List.mem_append_right _ h)) (by decide +kernel))) (goodIn_sub (fun _ h => List.mem_append_right _ h) (by decide +kernel))
set_option maxRecDepth 20000 in
theorem gL_law_X1_digest : GoodIn wsL_law (wsV RL 205 RX1 yX1_digest wsX1_digest) := goodIn_app (goodIn_of _ (by decide +kernel)) ggL_law_X1_digest
set_option maxRecDepth 20000 in
theorem ggL_law_X2_digest : GoodIn wsL_law wsX2_digest := goodIn_r _ [704, 141, 39, 45, 142, 38, 705, 706, 40, 42, 276, 277, 278, 5, 279, 44, 280, 281, 282, 283, 43, 284, 285, 286, 287, 41, 324, 325, 326, 327, 456, 457, 458, 459, 460, 104, 105, 106, 461, 131, 132, 425, 426, 427, 428, 476, 477, 478, 479, 480, 481, 482, 565, 566, 567, 568, 553, 554, 555, 556, 511, 512, 513, 514, 617, 618, 619, 620, 621, 622, 623, 624, 46, 625, 134, 135, 136, 626, 627, 628, 629, 641, 642, 643, 644, 272, 273, 274, 275, 362, 363, 364, 365, 580, 581, 582, 583, 534, 535, 536, 537, 710, 711, 712, 713, 714, 715, 716, 717, 718, 719] (by decide +kernel) (by decide +kernel)
set_option maxRecDepth 20000 in
theorem gL_law_X2_digest : GoodIn wsL_law (wsV RL 208 RX2 yX2_digest wsX2_digest) := goodIn_app (goodIn_of _ (by decide +kernel)) ggL_law_X2_digest
theorem dL_law_0 : decode cL_law 0 = .ok (.new 8, 3) := by decide +kernel
theorem dL_law_3 : decode cL_law 3 = .ok (.dup, 1) := by decide +kernel
theorem dL_law_4 : decode cL_law 4 = .ok (.invokespecial 89, 3) := by decide +kernel
theorem dL_law_7 : decode cL_law 7 = .ok (.astore_n 1, 1) := by decide +kernel
theorem dL_law_8 : decode cL_law 8 = .ok (.new 90, 3) := by decide +kernel
theorem dL_law_11 : decode cL_law 11 = .ok (.dup, 1) := by decide +kernel
theorem dL_law_12 : decode cL_law 12 = .ok (.invokespecial 92, 3) := by decide +kernel
theorem dL_law_15 : decode cL_law 15 = .ok (.astore_n 2, 1) := by decide +kernel
theorem dL_law_16 : decode cL_law 16 = .ok (.iconst 1, 1) := by decide +kernel
theorem dL_law_17 : decode cL_law 17 = .ok (.newarray .long, 2) := by decide +kernel
theorem dL_law_19 : decode cL_law 19 = .ok (.astore_n 3, 1) := by decide +kernel
theorem dL_law_20 : decode cL_law 20 = .ok (.iconst 0, 1) := by decide +kernel
theorem dL_law_21 : decode cL_law 21 = .ok (.istore 4, 2) := by decide +kernel
theorem dL_law_23 : decode cL_law 23 = .ok (.iload 4, 2) := by decide +kernel
theorem dL_law_25 : decode cL_law 25 = .ok (.aload_n 0, 1) := by decide +kernel
theorem dL_law_26 : decode cL_law 26 = .ok (.arraylength, 1) := by decide +kernel
theorem dL_law_27 : decode cL_law 27 = .ok (.iconst 5, 1) := by decide +kernel
theorem dL_law_28 : decode cL_law 28 = .ok (.isub, 1) := by decide +kernel
theorem dL_law_29 : decode cL_law 29 = .ok (.if_icmp .gt 1740, 3) := by decide +kernel
theorem dL_law_32 : decode cL_law 32 = .ok (.aload_n 0, 1) := by decide +kernel
theorem dL_law_33 : decode cL_law 33 = .ok (.iload 4, 2) := by decide +kernel
theorem dL_law_35 : decode cL_law 35 = .ok (.iaload, 1) := by decide +kernel
theorem dL_law_36 : decode cL_law 36 = .ok (.bipush 31, 2) := by decide +kernel
theorem dL_law_38 : decode cL_law 38 = .ok (.iand, 1) := by decide +kernel
theorem dL_law_39 : decode cL_law 39 = .ok (.tableswitch 1724 0 31 #[141, 233, 301, 369, 444, 500, 556, 569, 582, 595, 608, 664, 727, 790, 846, 902, 958, 1014, 1070, 1083, 1097, 1165, 1240, 1308, 1364, 1377, 1433, 1501, 1557, 1613, 1669, 1710], 141) := by decide +kernel
theorem dL_law_180 : decode cL_law 180 = .ok (.aload_n 1, 1) := by decide +kernel
theorem dL_law_181 : decode cL_law 181 = .ok (.aload_n 0, 1) := by decide +kernel
theorem dL_law_182 : decode cL_law 182 = .ok (.iload 4, 2) := by decide +kernel
theorem dL_law_184 : decode cL_law 184 = .ok (.iconst 1, 1) := by decide +kernel
theorem dL_law_185 : decode cL_law 185 = .ok (.iadd, 1) := by decide +kernel
theorem dL_law_186 : decode cL_law 186 = .ok (.iaload, 1) := by decide +kernel
theorem dL_law_187 : decode cL_law 187 = .ok (.aload_n 0, 1) := by decide +kernel
theorem dL_law_188 : decode cL_law 188 = .ok (.iload 4, 2) := by decide +kernel
theorem dL_law_190 : decode cL_law 190 = .ok (.iconst 2, 1) := by decide +kernel
theorem dL_law_191 : decode cL_law 191 = .ok (.iadd, 1) := by decide +kernel
theorem dL_law_192 : decode cL_law 192 = .ok (.iaload, 1) := by decide +kernel
theorem dL_law_193 : decode cL_law 193 = .ok (.aload_n 0, 1) := by decide +kernel
theorem dL_law_194 : decode cL_law 194 = .ok (.iload 4, 2) := by decide +kernel
theorem dL_law_196 : decode cL_law 196 = .ok (.iconst 3, 1) := by decide +kernel
theorem dL_law_197 : decode cL_law 197 = .ok (.iadd, 1) := by decide +kernel
theorem dL_law_198 : decode cL_law 198 = .ok (.iaload, 1) := by decide +kernel
theorem dL_law_199 : decode cL_law 199 = .ok (.aload_n 0, 1) := by decide +kernel
theorem dL_law_200 : decode cL_law 200 = .ok (.iload 4, 2) := by decide +kernel
theorem dL_law_202 : decode cL_law 202 = .ok (.iconst 4, 1) := by decide +kernel
theorem dL_law_203 : decode cL_law 203 = .ok (.iadd, 1) := by decide +kernel
theorem dL_law_204 : decode cL_law 204 = .ok (.iaload, 1) := by decide +kernel
theorem dL_law_205 : decode cL_law 205 = .ok (.aload_n 3, 1) := by decide +kernel
theorem dL_law_206 : decode cL_law 206 = .ok (.invokestatic 93, 3) := by decide +kernel
theorem dL_law_209 : decode cL_law 209 = .ok (.istore 5, 2) := by decide +kernel
theorem dL_law_211 : decode cL_law 211 = .ok (.aload_n 2, 1) := by decide +kernel
theorem dL_law_212 : decode cL_law 212 = .ok (.aload_n 0, 1) := by decide +kernel
theorem dL_law_213 : decode cL_law 213 = .ok (.iload 4, 2) := by decide +kernel
theorem dL_law_215 : decode cL_law 215 = .ok (.iconst 1, 1) := by decide +kernel
theorem dL_law_216 : decode cL_law 216 = .ok (.iadd, 1) := by decide +kernel
theorem dL_law_217 : decode cL_law 217 = .ok (.iaload, 1) := by decide +kernel
theorem dL_law_218 : decode cL_law 218 = .ok (.aload_n 0, 1) := by decide +kernel
theorem dL_law_219 : decode cL_law 219 = .ok (.iload 4, 2) := by decide +kernel
theorem dL_law_221 : decode cL_law 221 = .ok (.iconst 2, 1) := by decide +kernel
theorem dL_law_222 : decode cL_law 222 = .ok (.iadd, 1) := by decide +kernel
theorem dL_law_223 : decode cL_law 223 = .ok (.iaload, 1) := by decide +kernel
theorem dL_law_224 : decode cL_law 224 = .ok (.aload_n 0, 1) := by decide +kernel
theorem dL_law_225 : decode cL_law 225 = .ok (.iload 4, 2) := by decide +kernel
theorem dL_law_227 : decode cL_law 227 = .ok (.iconst 3, 1) := by decide +kernel
theorem dL_law_228 : decode cL_law 228 = .ok (.iadd, 1) := by decide +kernel
theorem dL_law_229 : decode cL_law 229 = .ok (.iaload, 1) := by decide +kernel
theorem dL_law_230 : decode cL_law 230 = .ok (.aload_n 0, 1) := by decide +kernel
theorem dL_law_231 : decode cL_law 231 = .ok (.iload 4, 2) := by decide +kernel
theorem dL_law_233 : decode cL_law 233 = .ok (.iconst 4, 1) := by decide +kernel
theorem dL_law_234 : decode cL_law 234 = .ok (.iadd, 1) := by decide +kernel
theorem dL_law_235 : decode cL_law 235 = .ok (.iaload, 1) := by decide +kernel
theorem dL_law_236 : decode cL_law 236 = .ok (.invokevirtual 98, 3) := by decide +kernel
theorem dL_law_239 : decode cL_law 239 = .ok (.istore 6, 2) := by decide +kernel
theorem dL_law_241 : decode cL_law 241 = .ok (.aload_n 2, 1) := by decide +kernel
theorem dL_law_242 : decode cL_law 242 = .ok (.invokevirtual 99, 3) := by decide +kernel
theorem dL_law_245 : decode cL_law 245 = .ok (.iload 5, 2) := by decide +kernel
theorem dL_law_247 : decode cL_law 247 = .ok (.if_icmp .eq 5, 3) := by decide +kernel
theorem dL_law_250 : decode cL_law 250 = .ok (.iconst 0, 1) := by decide +kernel
theorem dL_law_251 : decode cL_law 251 = .ok (.ireturn, 1) := by decide +kernel
theorem dL_law_252 : decode cL_law 252 = .ok (.iload 5, 2) := by decide +kernel
theorem dL_law_254 : decode cL_law 254 = .ok (.ifCond .ne 15, 3) := by decide +kernel
theorem dL_law_257 : decode cL_law 257 = .ok (.aload_n 3, 1) := by decide +kernel
theorem dL_law_258 : decode cL_law 258 = .ok (.iconst 0, 1) := by decide +kernel
theorem dL_law_259 : decode cL_law 259 = .ok (.laload, 1) := by decide +kernel
theorem dL_law_260 : decode cL_law 260 = .ok (.iload 6, 2) := by decide +kernel
theorem dL_law_262 : decode cL_law 262 = .ok (.i2l, 1) := by decide +kernel
theorem dL_law_263 : decode cL_law 263 = .ok (.lcmp, 1) := by decide +kernel
theorem dL_law_264 : decode cL_law 264 = .ok (.ifCond .eq 5, 3) := by decide +kernel
theorem dL_law_267 : decode cL_law 267 = .ok (.iconst 0, 1) := by decide +kernel
theorem dL_law_268 : decode cL_law 268 = .ok (.ireturn, 1) := by decide +kernel
theorem dL_law_269 : decode cL_law 269 = .ok (.goto 1494, 3) := by decide +kernel
theorem dL_law_272 : decode cL_law 272 = .ok (.aload_n 1, 1) := by decide +kernel
theorem dL_law_273 : decode cL_law 273 = .ok (.aload_n 0, 1) := by decide +kernel
theorem dL_law_274 : decode cL_law 274 = .ok (.iload 4, 2) := by decide +kernel
theorem dL_law_276 : decode cL_law 276 = .ok (.iconst 1, 1) := by decide +kernel
theorem dL_law_277 : decode cL_law 277 = .ok (.iadd, 1) := by decide +kernel
theorem dL_law_278 : decode cL_law 278 = .ok (.iaload, 1) := by decide +kernel
theorem dL_law_279 : decode cL_law 279 = .ok (.aload_n 0, 1) := by decide +kernel
theorem dL_law_280 : decode cL_law 280 = .ok (.iload 4, 2) := by decide +kernel
theorem dL_law_282 : decode cL_law 282 = .ok (.iconst 2, 1) := by decide +kernel
theorem dL_law_283 : decode cL_law 283 = .ok (.iadd, 1) := by decide +kernel
theorem dL_law_284 : decode cL_law 284 = .ok (.iaload, 1) := by decide +kernel
theorem dL_law_285 : decode cL_law 285 = .ok (.aload_n 3, 1) := by decide +kernel
theorem dL_law_286 : decode cL_law 286 = .ok (.invokestatic 103, 3) := by decide +kernel
theorem dL_law_289 : decode cL_law 289 = .ok (.istore 5, 2) := by decide +kernel
theorem dL_law_291 : decode cL_law 291 = .ok (.aload_n 2, 1) := by decide +kernel
theorem dL_law_292 : decode cL_law 292 = .ok (.aload_n 0, 1) := by decide +kernel
theorem dL_law_293 : decode cL_law 293 = .ok (.iload 4, 2) := by decide +kernel
theorem dL_law_295 : decode cL_law 295 = .ok (.iconst 1, 1) := by decide +kernel
theorem dL_law_296 : decode cL_law 296 = .ok (.iadd, 1) := by decide +kernel
theorem dL_law_297 : decode cL_law 297 = .ok (.iaload, 1) := by decide +kernel
theorem dL_law_298 : decode cL_law 298 = .ok (.aload_n 0, 1) := by decide +kernel
theorem dL_law_299 : decode cL_law 299 = .ok (.iload 4, 2) := by decide +kernel
theorem dL_law_301 : decode cL_law 301 = .ok (.iconst 2, 1) := by decide +kernel
theorem dL_law_302 : decode cL_law 302 = .ok (.iadd, 1) := by decide +kernel
theorem dL_law_303 : decode cL_law 303 = .ok (.iaload, 1) := by decide +kernel
theorem dL_law_304 : decode cL_law 304 = .ok (.invokevirtual 106, 3) := by decide +kernel
theorem dL_law_307 : decode cL_law 307 = .ok (.istore 6, 2) := by decide +kernel
theorem dL_law_309 : decode cL_law 309 = .ok (.aload_n 2, 1) := by decide +kernel
theorem dL_law_310 : decode cL_law 310 = .ok (.invokevirtual 99, 3) := by decide +kernel
theorem dL_law_313 : decode cL_law 313 = .ok (.iload 5, 2) := by decide +kernel
theorem dL_law_315 : decode cL_law 315 = .ok (.if_icmp .eq 5, 3) := by decide +kernel
theorem dL_law_318 : decode cL_law 318 = .ok (.iconst 0, 1) := by decide +kernel
theorem dL_law_319 : decode cL_law 319 = .ok (.ireturn, 1) := by decide +kernel
theorem dL_law_320 : decode cL_law 320 = .ok (.iload 5, 2) := by decide +kernel
theorem dL_law_322 : decode cL_law 322 = .ok (.ifCond .ne 15, 3) := by decide +kernel
theorem dL_law_325 : decode cL_law 325 = .ok (.aload_n 3, 1) := by decide +kernel
theorem dL_law_326 : decode cL_law 326 = .ok (.iconst 0, 1) := by decide +kernel
theorem dL_law_327 : decode cL_law 327 = .ok (.laload, 1) := by decide +kernel
theorem dL_law_328 : decode cL_law 328 = .ok (.iload 6, 2) := by decide +kernel
theorem dL_law_330 : decode cL_law 330 = .ok (.i2l, 1) := by decide +kernel
theorem dL_law_331 : decode cL_law 331 = .ok (.lcmp, 1) := by decide +kernel
theorem dL_law_332 : decode cL_law 332 = .ok (.ifCond .eq 5, 3) := by decide +kernel
theorem dL_law_335 : decode cL_law 335 = .ok (.iconst 0, 1) := by decide +kernel
theorem dL_law_336 : decode cL_law 336 = .ok (.ireturn, 1) := by decide +kernel
theorem dL_law_337 : decode cL_law 337 = .ok (.goto 1426, 3) := by decide +kernel
theorem dL_law_340 : decode cL_law 340 = .ok (.aload_n 1, 1) := by decide +kernel
theorem dL_law_341 : decode cL_law 341 = .ok (.aload_n 0, 1) := by decide +kernel
theorem dL_law_342 : decode cL_law 342 = .ok (.iload 4, 2) := by decide +kernel
theorem dL_law_344 : decode cL_law 344 = .ok (.iconst 1, 1) := by decide +kernel
theorem dL_law_345 : decode cL_law 345 = .ok (.iadd, 1) := by decide +kernel
theorem dL_law_346 : decode cL_law 346 = .ok (.iaload, 1) := by decide +kernel
theorem dL_law_347 : decode cL_law 347 = .ok (.aload_n 0, 1) := by decide +kernel
theorem dL_law_348 : decode cL_law 348 = .ok (.iload 4, 2) := by decide +kernel
theorem dL_law_350 : decode cL_law 350 = .ok (.iconst 2, 1) := by decide +kernel
theorem dL_law_351 : decode cL_law 351 = .ok (.iadd, 1) := by decide +kernel
theorem dL_law_352 : decode cL_law 352 = .ok (.iaload, 1) := by decide +kernel
theorem dL_law_353 : decode cL_law 353 = .ok (.aload_n 3, 1) := by decide +kernel
theorem dL_law_354 : decode cL_law 354 = .ok (.invokestatic 107, 3) := by decide +kernel
theorem dL_law_357 : decode cL_law 357 = .ok (.istore 5, 2) := by decide +kernel
theorem dL_law_359 : decode cL_law 359 = .ok (.aload_n 2, 1) := by decide +kernel
theorem dL_law_360 : decode cL_law 360 = .ok (.aload_n 0, 1) := by decide +kernel
theorem dL_law_361 : decode cL_law 361 = .ok (.iload 4, 2) := by decide +kernel
theorem dL_law_363 : decode cL_law 363 = .ok (.iconst 1, 1) := by decide +kernel
theorem dL_law_364 : decode cL_law 364 = .ok (.iadd, 1) := by decide +kernel
theorem dL_law_365 : decode cL_law 365 = .ok (.iaload, 1) := by decide +kernel
theorem dL_law_366 : decode cL_law 366 = .ok (.aload_n 0, 1) := by decide +kernel
theorem dL_law_367 : decode cL_law 367 = .ok (.iload 4, 2) := by decide +kernel
theorem dL_law_369 : decode cL_law 369 = .ok (.iconst 2, 1) := by decide +kernel
theorem dL_law_370 : decode cL_law 370 = .ok (.iadd, 1) := by decide +kernel
theorem dL_law_371 : decode cL_law 371 = .ok (.iaload, 1) := by decide +kernel
theorem dL_law_372 : decode cL_law 372 = .ok (.invokevirtual 109, 3) := by decide +kernel
theorem dL_law_375 : decode cL_law 375 = .ok (.istore 6, 2) := by decide +kernel
theorem dL_law_377 : decode cL_law 377 = .ok (.aload_n 2, 1) := by decide +kernel
theorem dL_law_378 : decode cL_law 378 = .ok (.invokevirtual 99, 3) := by decide +kernel
theorem dL_law_381 : decode cL_law 381 = .ok (.iload 5, 2) := by decide +kernel
theorem dL_law_383 : decode cL_law 383 = .ok (.if_icmp .eq 5, 3) := by decide +kernel
theorem dL_law_386 : decode cL_law 386 = .ok (.iconst 0, 1) := by decide +kernel
theorem dL_law_387 : decode cL_law 387 = .ok (.ireturn, 1) := by decide +kernel
theorem dL_law_388 : decode cL_law 388 = .ok (.iload 5, 2) := by decide +kernel
theorem dL_law_390 : decode cL_law 390 = .ok (.ifCond .ne 15, 3) := by decide +kernel
theorem dL_law_393 : decode cL_law 393 = .ok (.aload_n 3, 1) := by decide +kernel
theorem dL_law_394 : decode cL_law 394 = .ok (.iconst 0, 1) := by decide +kernel
theorem dL_law_395 : decode cL_law 395 = .ok (.laload, 1) := by decide +kernel
theorem dL_law_396 : decode cL_law 396 = .ok (.iload 6, 2) := by decide +kernel
theorem dL_law_398 : decode cL_law 398 = .ok (.i2l, 1) := by decide +kernel
theorem dL_law_399 : decode cL_law 399 = .ok (.lcmp, 1) := by decide +kernel
theorem dL_law_400 : decode cL_law 400 = .ok (.ifCond .eq 5, 3) := by decide +kernel
theorem dL_law_403 : decode cL_law 403 = .ok (.iconst 0, 1) := by decide +kernel
theorem dL_law_404 : decode cL_law 404 = .ok (.ireturn, 1) := by decide +kernel
theorem dL_law_405 : decode cL_law 405 = .ok (.goto 1358, 3) := by decide +kernel
theorem dL_law_408 : decode cL_law 408 = .ok (.aload_n 1, 1) := by decide +kernel
theorem dL_law_409 : decode cL_law 409 = .ok (.aload_n 0, 1) := by decide +kernel
theorem dL_law_410 : decode cL_law 410 = .ok (.iload 4, 2) := by decide +kernel
theorem dL_law_412 : decode cL_law 412 = .ok (.iconst 1, 1) := by decide +kernel
theorem dL_law_413 : decode cL_law 413 = .ok (.iadd, 1) := by decide +kernel
theorem dL_law_414 : decode cL_law 414 = .ok (.iaload, 1) := by decide +kernel
theorem dL_law_415 : decode cL_law 415 = .ok (.aload_n 0, 1) := by decide +kernel
theorem dL_law_416 : decode cL_law 416 = .ok (.iload 4, 2) := by decide +kernel
theorem dL_law_418 : decode cL_law 418 = .ok (.iconst 2, 1) := by decide +kernel
theorem dL_law_419 : decode cL_law 419 = .ok (.iadd, 1) := by decide +kernel
theorem dL_law_420 : decode cL_law 420 = .ok (.iaload, 1) := by decide +kernel
theorem dL_law_421 : decode cL_law 421 = .ok (.aload_n 3, 1) := by decide +kernel
theorem dL_law_422 : decode cL_law 422 = .ok (.invokestatic 110, 3) := by decide +kernel
theorem dL_law_425 : decode cL_law 425 = .ok (.istore 5, 2) := by decide +kernel
theorem dL_law_427 : decode cL_law 427 = .ok (.aload_n 2, 1) := by decide +kernel
theorem dL_law_428 : decode cL_law 428 = .ok (.aload_n 0, 1) := by decide +kernel
theorem dL_law_429 : decode cL_law 429 = .ok (.iload 4, 2) := by decide +kernel
theorem dL_law_431 : decode cL_law 431 = .ok (.iconst 1, 1) := by decide +kernel
theorem dL_law_432 : decode cL_law 432 = .ok (.iadd, 1) := by decide +kernel
theorem dL_law_433 : decode cL_law 433 = .ok (.iaload, 1) := by decide +kernel
theorem dL_law_434 : decode cL_law 434 = .ok (.aload_n 0, 1) := by decide +kernel
theorem dL_law_435 : decode cL_law 435 = .ok (.iload 4, 2) := by decide +kernel
theorem dL_law_437 : decode cL_law 437 = .ok (.iconst 2, 1) := by decide +kernel
theorem dL_law_438 : decode cL_law 438 = .ok (.iadd, 1) := by decide +kernel
theorem dL_law_439 : decode cL_law 439 = .ok (.iaload, 1) := by decide +kernel
theorem dL_law_440 : decode cL_law 440 = .ok (.invokevirtual 112, 3) := by decide +kernel
theorem dL_law_443 : decode cL_law 443 = .ok (.istore 6, 2) := by decide +kernel
theorem dL_law_445 : decode cL_law 445 = .ok (.aload_n 2, 1) := by decide +kernel
theorem dL_law_446 : decode cL_law 446 = .ok (.invokevirtual 99, 3) := by decide +kernel
theorem dL_law_449 : decode cL_law 449 = .ok (.iload 5, 2) := by decide +kernel
theorem dL_law_451 : decode cL_law 451 = .ok (.if_icmp .eq 5, 3) := by decide +kernel
theorem dL_law_454 : decode cL_law 454 = .ok (.iconst 0, 1) := by decide +kernel
theorem dL_law_455 : decode cL_law 455 = .ok (.ireturn, 1) := by decide +kernel
theorem dL_law_456 : decode cL_law 456 = .ok (.iload 5, 2) := by decide +kernel
theorem dL_law_458 : decode cL_law 458 = .ok (.ifCond .ne 22, 3) := by decide +kernel
theorem dL_law_461 : decode cL_law 461 = .ok (.aload_n 3, 1) := by decide +kernel
theorem dL_law_462 : decode cL_law 462 = .ok (.iconst 0, 1) := by decide +kernel
theorem dL_law_463 : decode cL_law 463 = .ok (.laload, 1) := by decide +kernel
theorem dL_law_464 : decode cL_law 464 = .ok (.iload 6, 2) := by decide +kernel
theorem dL_law_466 : decode cL_law 466 = .ok (.ifCond .eq 7, 3) := by decide +kernel
theorem dL_law_469 : decode cL_law 469 = .ok (.lconst 1, 1) := by decide +kernel
theorem dL_law_470 : decode cL_law 470 = .ok (.goto 4, 3) := by decide +kernel
theorem dL_law_473 : decode cL_law 473 = .ok (.lconst 0, 1) := by decide +kernel
theorem dL_law_474 : decode cL_law 474 = .ok (.lcmp, 1) := by decide +kernel
theorem dL_law_475 : decode cL_law 475 = .ok (.ifCond .eq 5, 3) := by decide +kernel
theorem dL_law_478 : decode cL_law 478 = .ok (.iconst 0, 1) := by decide +kernel
theorem dL_law_479 : decode cL_law 479 = .ok (.ireturn, 1) := by decide +kernel
theorem dL_law_480 : decode cL_law 480 = .ok (.goto 1283, 3) := by decide +kernel
theorem dL_law_483 : decode cL_law 483 = .ok (.aload_n 1, 1) := by decide +kernel
theorem dL_law_484 : decode cL_law 484 = .ok (.aload_n 0, 1) := by decide +kernel
theorem dL_law_485 : decode cL_law 485 = .ok (.iload 4, 2) := by decide +kernel
theorem dL_law_487 : decode cL_law 487 = .ok (.iconst 1, 1) := by decide +kernel
theorem dL_law_488 : decode cL_law 488 = .ok (.iadd, 1) := by decide +kernel
theorem dL_law_489 : decode cL_law 489 = .ok (.iaload, 1) := by decide +kernel
theorem dL_law_490 : decode cL_law 490 = .ok (.aload_n 3, 1) := by decide +kernel
theorem dL_law_491 : decode cL_law 491 = .ok (.invokestatic 113, 3) := by decide +kernel
theorem dL_law_494 : decode cL_law 494 = .ok (.istore 5, 2) := by decide +kernel
theorem dL_law_496 : decode cL_law 496 = .ok (.aload_n 2, 1) := by decide +kernel
theorem dL_law_497 : decode cL_law 497 = .ok (.aload_n 0, 1) := by decide +kernel
theorem dL_law_498 : decode cL_law 498 = .ok (.iload 4, 2) := by decide +kernel
theorem dL_law_500 : decode cL_law 500 = .ok (.iconst 1, 1) := by decide +kernel
theorem dL_law_501 : decode cL_law 501 = .ok (.iadd, 1) := by decide +kernel
theorem dL_law_502 : decode cL_law 502 = .ok (.iaload, 1) := by decide +kernel
theorem dL_law_503 : decode cL_law 503 = .ok (.invokevirtual 116, 3) := by decide +kernel
theorem dL_law_506 : decode cL_law 506 = .ok (.istore 6, 2) := by decide +kernel
theorem dL_law_508 : decode cL_law 508 = .ok (.aload_n 2, 1) := by decide +kernel
theorem dL_law_509 : decode cL_law 509 = .ok (.invokevirtual 99, 3) := by decide +kernel
theorem dL_law_512 : decode cL_law 512 = .ok (.iload 5, 2) := by decide +kernel
theorem dL_law_514 : decode cL_law 514 = .ok (.if_icmp .eq 5, 3) := by decide +kernel
theorem dL_law_517 : decode cL_law 517 = .ok (.iconst 0, 1) := by decide +kernel
theorem dL_law_518 : decode cL_law 518 = .ok (.ireturn, 1) := by decide +kernel
theorem dL_law_519 : decode cL_law 519 = .ok (.iload 5, 2) := by decide +kernel
theorem dL_law_521 : decode cL_law 521 = .ok (.ifCond .ne 15, 3) := by decide +kernel
theorem dL_law_524 : decode cL_law 524 = .ok (.aload_n 3, 1) := by decide +kernel
theorem dL_law_525 : decode cL_law 525 = .ok (.iconst 0, 1) := by decide +kernel
theorem dL_law_526 : decode cL_law 526 = .ok (.laload, 1) := by decide +kernel
theorem dL_law_527 : decode cL_law 527 = .ok (.iload 6, 2) := by decide +kernel
theorem dL_law_529 : decode cL_law 529 = .ok (.i2l, 1) := by decide +kernel
theorem dL_law_530 : decode cL_law 530 = .ok (.lcmp, 1) := by decide +kernel
theorem dL_law_531 : decode cL_law 531 = .ok (.ifCond .eq 5, 3) := by decide +kernel
theorem dL_law_534 : decode cL_law 534 = .ok (.iconst 0, 1) := by decide +kernel
theorem dL_law_535 : decode cL_law 535 = .ok (.ireturn, 1) := by decide +kernel
theorem dL_law_536 : decode cL_law 536 = .ok (.goto 1227, 3) := by decide +kernel
theorem dL_law_539 : decode cL_law 539 = .ok (.aload_n 1, 1) := by decide +kernel
theorem dL_law_540 : decode cL_law 540 = .ok (.aload_n 0, 1) := by decide +kernel
theorem dL_law_541 : decode cL_law 541 = .ok (.iload 4, 2) := by decide +kernel
theorem dL_law_543 : decode cL_law 543 = .ok (.iconst 1, 1) := by decide +kernel
theorem dL_law_544 : decode cL_law 544 = .ok (.iadd, 1) := by decide +kernel
theorem dL_law_545 : decode cL_law 545 = .ok (.iaload, 1) := by decide +kernel
theorem dL_law_546 : decode cL_law 546 = .ok (.aload_n 3, 1) := by decide +kernel
theorem dL_law_547 : decode cL_law 547 = .ok (.invokestatic 117, 3) := by decide +kernel
theorem dL_law_550 : decode cL_law 550 = .ok (.istore 5, 2) := by decide +kernel
theorem dL_law_552 : decode cL_law 552 = .ok (.aload_n 2, 1) := by decide +kernel
theorem dL_law_553 : decode cL_law 553 = .ok (.aload_n 0, 1) := by decide +kernel
theorem dL_law_554 : decode cL_law 554 = .ok (.iload 4, 2) := by decide +kernel
theorem dL_law_556 : decode cL_law 556 = .ok (.iconst 1, 1) := by decide +kernel
theorem dL_law_557 : decode cL_law 557 = .ok (.iadd, 1) := by decide +kernel
theorem dL_law_558 : decode cL_law 558 = .ok (.iaload, 1) := by decide +kernel
theorem dL_law_559 : decode cL_law 559 = .ok (.invokevirtual 119, 3) := by decide +kernel
theorem dL_law_562 : decode cL_law 562 = .ok (.istore 6, 2) := by decide +kernel
theorem dL_law_564 : decode cL_law 564 = .ok (.aload_n 2, 1) := by decide +kernel
theorem dL_law_565 : decode cL_law 565 = .ok (.invokevirtual 99, 3) := by decide +kernel
theorem dL_law_568 : decode cL_law 568 = .ok (.iload 5, 2) := by decide +kernel
theorem dL_law_570 : decode cL_law 570 = .ok (.if_icmp .eq 5, 3) := by decide +kernel
theorem dL_law_573 : decode cL_law 573 = .ok (.iconst 0, 1) := by decide +kernel
theorem dL_law_574 : decode cL_law 574 = .ok (.ireturn, 1) := by decide +kernel
theorem dL_law_575 : decode cL_law 575 = .ok (.iload 5, 2) := by decide +kernel
theorem dL_law_577 : decode cL_law 577 = .ok (.ifCond .ne 15, 3) := by decide +kernel
theorem dL_law_580 : decode cL_law 580 = .ok (.aload_n 3, 1) := by decide +kernel
theorem dL_law_581 : decode cL_law 581 = .ok (.iconst 0, 1) := by decide +kernel
theorem dL_law_582 : decode cL_law 582 = .ok (.laload, 1) := by decide +kernel
theorem dL_law_583 : decode cL_law 583 = .ok (.iload 6, 2) := by decide +kernel
theorem dL_law_585 : decode cL_law 585 = .ok (.i2l, 1) := by decide +kernel
theorem dL_law_586 : decode cL_law 586 = .ok (.lcmp, 1) := by decide +kernel
theorem dL_law_587 : decode cL_law 587 = .ok (.ifCond .eq 5, 3) := by decide +kernel
theorem dL_law_590 : decode cL_law 590 = .ok (.iconst 0, 1) := by decide +kernel
theorem dL_law_591 : decode cL_law 591 = .ok (.ireturn, 1) := by decide +kernel
theorem dL_law_592 : decode cL_law 592 = .ok (.goto 1171, 3) := by decide +kernel
theorem dL_law_595 : decode cL_law 595 = .ok (.aload_n 1, 1) := by decide +kernel
theorem dL_law_596 : decode cL_law 596 = .ok (.invokevirtual 120, 3) := by decide +kernel
theorem dL_law_599 : decode cL_law 599 = .ok (.aload_n 2, 1) := by decide +kernel
theorem dL_law_600 : decode cL_law 600 = .ok (.invokevirtual 123, 3) := by decide +kernel
theorem dL_law_603 : decode cL_law 603 = .ok (.if_icmp .eq 1160, 3) := by decide +kernel
theorem dL_law_606 : decode cL_law 606 = .ok (.iconst 0, 1) := by decide +kernel
theorem dL_law_607 : decode cL_law 607 = .ok (.ireturn, 1) := by decide +kernel
theorem dL_law_608 : decode cL_law 608 = .ok (.aload_n 1, 1) := by decide +kernel
theorem dL_law_609 : decode cL_law 609 = .ok (.invokevirtual 124, 3) := by decide +kernel
theorem dL_law_612 : decode cL_law 612 = .ok (.aload_n 2, 1) := by decide +kernel
theorem dL_law_613 : decode cL_law 613 = .ok (.invokevirtual 127, 3) := by decide +kernel
theorem dL_law_616 : decode cL_law 616 = .ok (.if_icmp .eq 1147, 3) := by decide +kernel
theorem dL_law_619 : decode cL_law 619 = .ok (.iconst 0, 1) := by decide +kernel
theorem dL_law_620 : decode cL_law 620 = .ok (.ireturn, 1) := by decide +kernel
theorem dL_law_621 : decode cL_law 621 = .ok (.aload_n 1, 1) := by decide +kernel
theorem dL_law_622 : decode cL_law 622 = .ok (.invokevirtual 128, 3) := by decide +kernel
theorem dL_law_625 : decode cL_law 625 = .ok (.aload_n 2, 1) := by decide +kernel
theorem dL_law_626 : decode cL_law 626 = .ok (.invokevirtual 131, 3) := by decide +kernel
theorem dL_law_629 : decode cL_law 629 = .ok (.if_icmp .eq 1134, 3) := by decide +kernel
theorem dL_law_632 : decode cL_law 632 = .ok (.iconst 0, 1) := by decide +kernel
theorem dL_law_633 : decode cL_law 633 = .ok (.ireturn, 1) := by decide +kernel
theorem dL_law_634 : decode cL_law 634 = .ok (.aload_n 1, 1) := by decide +kernel
theorem dL_law_635 : decode cL_law 635 = .ok (.invokevirtual 132, 3) := by decide +kernel
theorem dL_law_638 : decode cL_law 638 = .ok (.aload_n 2, 1) := by decide +kernel
theorem dL_law_639 : decode cL_law 639 = .ok (.invokevirtual 135, 3) := by decide +kernel
theorem dL_law_642 : decode cL_law 642 = .ok (.if_icmp .eq 1121, 3) := by decide +kernel
theorem dL_law_645 : decode cL_law 645 = .ok (.iconst 0, 1) := by decide +kernel
theorem dL_law_646 : decode cL_law 646 = .ok (.ireturn, 1) := by decide +kernel
theorem dL_law_647 : decode cL_law 647 = .ok (.aload_n 1, 1) := by decide +kernel
theorem dL_law_648 : decode cL_law 648 = .ok (.aload_n 0, 1) := by decide +kernel
theorem dL_law_649 : decode cL_law 649 = .ok (.iload 4, 2) := by decide +kernel
theorem dL_law_651 : decode cL_law 651 = .ok (.iconst 1, 1) := by decide +kernel
theorem dL_law_652 : decode cL_law 652 = .ok (.iadd, 1) := by decide +kernel
theorem dL_law_653 : decode cL_law 653 = .ok (.iaload, 1) := by decide +kernel
theorem dL_law_654 : decode cL_law 654 = .ok (.aload_n 3, 1) := by decide +kernel
theorem dL_law_655 : decode cL_law 655 = .ok (.invokestatic 136, 3) := by decide +kernel
theorem dL_law_658 : decode cL_law 658 = .ok (.istore 5, 2) := by decide +kernel
theorem dL_law_660 : decode cL_law 660 = .ok (.aload_n 2, 1) := by decide +kernel
theorem dL_law_661 : decode cL_law 661 = .ok (.aload_n 0, 1) := by decide +kernel
theorem dL_law_662 : decode cL_law 662 = .ok (.iload 4, 2) := by decide +kernel
theorem dL_law_664 : decode cL_law 664 = .ok (.iconst 1, 1) := by decide +kernel
theorem dL_law_665 : decode cL_law 665 = .ok (.iadd, 1) := by decide +kernel
theorem dL_law_666 : decode cL_law 666 = .ok (.iaload, 1) := by decide +kernel
theorem dL_law_667 : decode cL_law 667 = .ok (.invokevirtual 138, 3) := by decide +kernel
theorem dL_law_670 : decode cL_law 670 = .ok (.istore 6, 2) := by decide +kernel
theorem dL_law_672 : decode cL_law 672 = .ok (.aload_n 2, 1) := by decide +kernel
theorem dL_law_673 : decode cL_law 673 = .ok (.invokevirtual 99, 3) := by decide +kernel
theorem dL_law_676 : decode cL_law 676 = .ok (.iload 5, 2) := by decide +kernel
theorem dL_law_678 : decode cL_law 678 = .ok (.if_icmp .eq 5, 3) := by decide +kernel
theorem dL_law_681 : decode cL_law 681 = .ok (.iconst 0, 1) := by decide +kernel
theorem dL_law_682 : decode cL_law 682 = .ok (.ireturn, 1) := by decide +kernel
theorem dL_law_683 : decode cL_law 683 = .ok (.iload 5, 2) := by decide +kernel
theorem dL_law_685 : decode cL_law 685 = .ok (.ifCond .ne 15, 3) := by decide +kernel
theorem dL_law_688 : decode cL_law 688 = .ok (.aload_n 3, 1) := by decide +kernel
theorem dL_law_689 : decode cL_law 689 = .ok (.iconst 0, 1) := by decide +kernel
theorem dL_law_690 : decode cL_law 690 = .ok (.laload, 1) := by decide +kernel
theorem dL_law_691 : decode cL_law 691 = .ok (.iload 6, 2) := by decide +kernel
theorem dL_law_693 : decode cL_law 693 = .ok (.i2l, 1) := by decide +kernel
theorem dL_law_694 : decode cL_law 694 = .ok (.lcmp, 1) := by decide +kernel
theorem dL_law_695 : decode cL_law 695 = .ok (.ifCond .eq 5, 3) := by decide +kernel
theorem dL_law_698 : decode cL_law 698 = .ok (.iconst 0, 1) := by decide +kernel
theorem dL_law_699 : decode cL_law 699 = .ok (.ireturn, 1) := by decide +kernel
theorem dL_law_700 : decode cL_law 700 = .ok (.goto 1063, 3) := by decide +kernel
theorem dL_law_703 : decode cL_law 703 = .ok (.aload_n 1, 1) := by decide +kernel
theorem dL_law_704 : decode cL_law 704 = .ok (.aload_n 0, 1) := by decide +kernel
theorem dL_law_705 : decode cL_law 705 = .ok (.iload 4, 2) := by decide +kernel
theorem dL_law_707 : decode cL_law 707 = .ok (.iconst 1, 1) := by decide +kernel
theorem dL_law_708 : decode cL_law 708 = .ok (.iadd, 1) := by decide +kernel
theorem dL_law_709 : decode cL_law 709 = .ok (.iaload, 1) := by decide +kernel
theorem dL_law_710 : decode cL_law 710 = .ok (.aload_n 3, 1) := by decide +kernel
theorem dL_law_711 : decode cL_law 711 = .ok (.invokestatic 139, 3) := by decide +kernel
theorem dL_law_714 : decode cL_law 714 = .ok (.istore 5, 2) := by decide +kernel
theorem dL_law_716 : decode cL_law 716 = .ok (.aload_n 2, 1) := by decide +kernel
theorem dL_law_717 : decode cL_law 717 = .ok (.aload_n 0, 1) := by decide +kernel
theorem dL_law_718 : decode cL_law 718 = .ok (.iload 4, 2) := by decide +kernel
theorem dL_law_720 : decode cL_law 720 = .ok (.iconst 1, 1) := by decide +kernel
theorem dL_law_721 : decode cL_law 721 = .ok (.iadd, 1) := by decide +kernel
theorem dL_law_722 : decode cL_law 722 = .ok (.iaload, 1) := by decide +kernel
theorem dL_law_723 : decode cL_law 723 = .ok (.invokevirtual 141, 3) := by decide +kernel
theorem dL_law_726 : decode cL_law 726 = .ok (.istore 6, 2) := by decide +kernel
theorem dL_law_728 : decode cL_law 728 = .ok (.aload_n 2, 1) := by decide +kernel
theorem dL_law_729 : decode cL_law 729 = .ok (.invokevirtual 99, 3) := by decide +kernel
theorem dL_law_732 : decode cL_law 732 = .ok (.iload 5, 2) := by decide +kernel
theorem dL_law_734 : decode cL_law 734 = .ok (.if_icmp .eq 5, 3) := by decide +kernel
theorem dL_law_737 : decode cL_law 737 = .ok (.iconst 0, 1) := by decide +kernel
theorem dL_law_738 : decode cL_law 738 = .ok (.ireturn, 1) := by decide +kernel
theorem dL_law_739 : decode cL_law 739 = .ok (.iload 5, 2) := by decide +kernel
theorem dL_law_741 : decode cL_law 741 = .ok (.ifCond .ne 22, 3) := by decide +kernel
theorem dL_law_744 : decode cL_law 744 = .ok (.aload_n 3, 1) := by decide +kernel
theorem dL_law_745 : decode cL_law 745 = .ok (.iconst 0, 1) := by decide +kernel
theorem dL_law_746 : decode cL_law 746 = .ok (.laload, 1) := by decide +kernel
theorem dL_law_747 : decode cL_law 747 = .ok (.iload 6, 2) := by decide +kernel
theorem dL_law_749 : decode cL_law 749 = .ok (.ifCond .eq 7, 3) := by decide +kernel
theorem dL_law_752 : decode cL_law 752 = .ok (.lconst 1, 1) := by decide +kernel
theorem dL_law_753 : decode cL_law 753 = .ok (.goto 4, 3) := by decide +kernel
theorem dL_law_756 : decode cL_law 756 = .ok (.lconst 0, 1) := by decide +kernel
theorem dL_law_757 : decode cL_law 757 = .ok (.lcmp, 1) := by decide +kernel
theorem dL_law_758 : decode cL_law 758 = .ok (.ifCond .eq 5, 3) := by decide +kernel
theorem dL_law_761 : decode cL_law 761 = .ok (.iconst 0, 1) := by decide +kernel
theorem dL_law_762 : decode cL_law 762 = .ok (.ireturn, 1) := by decide +kernel
theorem dL_law_763 : decode cL_law 763 = .ok (.goto 1000, 3) := by decide +kernel
theorem dL_law_766 : decode cL_law 766 = .ok (.aload_n 1, 1) := by decide +kernel
theorem dL_law_767 : decode cL_law 767 = .ok (.aload_n 0, 1) := by decide +kernel
theorem dL_law_768 : decode cL_law 768 = .ok (.iload 4, 2) := by decide +kernel
theorem dL_law_770 : decode cL_law 770 = .ok (.iconst 1, 1) := by decide +kernel
theorem dL_law_771 : decode cL_law 771 = .ok (.iadd, 1) := by decide +kernel
theorem dL_law_772 : decode cL_law 772 = .ok (.iaload, 1) := by decide +kernel
theorem dL_law_773 : decode cL_law 773 = .ok (.aload_n 3, 1) := by decide +kernel
theorem dL_law_774 : decode cL_law 774 = .ok (.invokestatic 142, 3) := by decide +kernel
theorem dL_law_777 : decode cL_law 777 = .ok (.istore 5, 2) := by decide +kernel
theorem dL_law_779 : decode cL_law 779 = .ok (.aload_n 2, 1) := by decide +kernel
theorem dL_law_780 : decode cL_law 780 = .ok (.aload_n 0, 1) := by decide +kernel
theorem dL_law_781 : decode cL_law 781 = .ok (.iload 4, 2) := by decide +kernel
theorem dL_law_783 : decode cL_law 783 = .ok (.iconst 1, 1) := by decide +kernel
theorem dL_law_784 : decode cL_law 784 = .ok (.iadd, 1) := by decide +kernel
theorem dL_law_785 : decode cL_law 785 = .ok (.iaload, 1) := by decide +kernel
theorem dL_law_786 : decode cL_law 786 = .ok (.invokevirtual 144, 3) := by decide +kernel
theorem dL_law_789 : decode cL_law 789 = .ok (.istore 6, 2) := by decide +kernel
theorem dL_law_791 : decode cL_law 791 = .ok (.aload_n 2, 1) := by decide +kernel
theorem dL_law_792 : decode cL_law 792 = .ok (.invokevirtual 99, 3) := by decide +kernel
theorem dL_law_795 : decode cL_law 795 = .ok (.iload 5, 2) := by decide +kernel
theorem dL_law_797 : decode cL_law 797 = .ok (.if_icmp .eq 5, 3) := by decide +kernel
theorem dL_law_800 : decode cL_law 800 = .ok (.iconst 0, 1) := by decide +kernel
theorem dL_law_801 : decode cL_law 801 = .ok (.ireturn, 1) := by decide +kernel
theorem dL_law_802 : decode cL_law 802 = .ok (.iload 5, 2) := by decide +kernel
theorem dL_law_804 : decode cL_law 804 = .ok (.ifCond .ne 22, 3) := by decide +kernel
theorem dL_law_807 : decode cL_law 807 = .ok (.aload_n 3, 1) := by decide +kernel
theorem dL_law_808 : decode cL_law 808 = .ok (.iconst 0, 1) := by decide +kernel
theorem dL_law_809 : decode cL_law 809 = .ok (.laload, 1) := by decide +kernel
theorem dL_law_810 : decode cL_law 810 = .ok (.iload 6, 2) := by decide +kernel
theorem dL_law_812 : decode cL_law 812 = .ok (.ifCond .eq 7, 3) := by decide +kernel
theorem dL_law_815 : decode cL_law 815 = .ok (.lconst 1, 1) := by decide +kernel
theorem dL_law_816 : decode cL_law 816 = .ok (.goto 4, 3) := by decide +kernel
theorem dL_law_819 : decode cL_law 819 = .ok (.lconst 0, 1) := by decide +kernel
theorem dL_law_820 : decode cL_law 820 = .ok (.lcmp, 1) := by decide +kernel
theorem dL_law_821 : decode cL_law 821 = .ok (.ifCond .eq 5, 3) := by decide +kernel
theorem dL_law_824 : decode cL_law 824 = .ok (.iconst 0, 1) := by decide +kernel
theorem dL_law_825 : decode cL_law 825 = .ok (.ireturn, 1) := by decide +kernel
theorem dL_law_826 : decode cL_law 826 = .ok (.goto 937, 3) := by decide +kernel
theorem dL_law_829 : decode cL_law 829 = .ok (.aload_n 1, 1) := by decide +kernel
theorem dL_law_830 : decode cL_law 830 = .ok (.aload_n 0, 1) := by decide +kernel
theorem dL_law_831 : decode cL_law 831 = .ok (.iload 4, 2) := by decide +kernel
theorem dL_law_833 : decode cL_law 833 = .ok (.iconst 1, 1) := by decide +kernel
theorem dL_law_834 : decode cL_law 834 = .ok (.iadd, 1) := by decide +kernel
theorem dL_law_835 : decode cL_law 835 = .ok (.iaload, 1) := by decide +kernel
theorem dL_law_836 : decode cL_law 836 = .ok (.aload_n 3, 1) := by decide +kernel
theorem dL_law_837 : decode cL_law 837 = .ok (.invokestatic 145, 3) := by decide +kernel
theorem dL_law_840 : decode cL_law 840 = .ok (.istore 5, 2) := by decide +kernel
theorem dL_law_842 : decode cL_law 842 = .ok (.aload_n 2, 1) := by decide +kernel
theorem dL_law_843 : decode cL_law 843 = .ok (.aload_n 0, 1) := by decide +kernel
theorem dL_law_844 : decode cL_law 844 = .ok (.iload 4, 2) := by decide +kernel
theorem dL_law_846 : decode cL_law 846 = .ok (.iconst 1, 1) := by decide +kernel
theorem dL_law_847 : decode cL_law 847 = .ok (.iadd, 1) := by decide +kernel
theorem dL_law_848 : decode cL_law 848 = .ok (.iaload, 1) := by decide +kernel
theorem dL_law_849 : decode cL_law 849 = .ok (.invokevirtual 147, 3) := by decide +kernel
theorem dL_law_852 : decode cL_law 852 = .ok (.istore 6, 2) := by decide +kernel
theorem dL_law_854 : decode cL_law 854 = .ok (.aload_n 2, 1) := by decide +kernel
theorem dL_law_855 : decode cL_law 855 = .ok (.invokevirtual 99, 3) := by decide +kernel
theorem dL_law_858 : decode cL_law 858 = .ok (.iload 5, 2) := by decide +kernel
theorem dL_law_860 : decode cL_law 860 = .ok (.if_icmp .eq 5, 3) := by decide +kernel
theorem dL_law_863 : decode cL_law 863 = .ok (.iconst 0, 1) := by decide +kernel
theorem dL_law_864 : decode cL_law 864 = .ok (.ireturn, 1) := by decide +kernel
theorem dL_law_865 : decode cL_law 865 = .ok (.iload 5, 2) := by decide +kernel
theorem dL_law_867 : decode cL_law 867 = .ok (.ifCond .ne 15, 3) := by decide +kernel
theorem dL_law_870 : decode cL_law 870 = .ok (.aload_n 3, 1) := by decide +kernel
theorem dL_law_871 : decode cL_law 871 = .ok (.iconst 0, 1) := by decide +kernel
theorem dL_law_872 : decode cL_law 872 = .ok (.laload, 1) := by decide +kernel
theorem dL_law_873 : decode cL_law 873 = .ok (.iload 6, 2) := by decide +kernel
theorem dL_law_875 : decode cL_law 875 = .ok (.i2l, 1) := by decide +kernel
theorem dL_law_876 : decode cL_law 876 = .ok (.lcmp, 1) := by decide +kernel
theorem dL_law_877 : decode cL_law 877 = .ok (.ifCond .eq 5, 3) := by decide +kernel
theorem dL_law_880 : decode cL_law 880 = .ok (.iconst 0, 1) := by decide +kernel
