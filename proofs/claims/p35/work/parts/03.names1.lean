theorem dX1_lightLamps_3 : decode cX1_lightLamps 3 = .ok (.istore_n 3, 1) := by decide +kernel
theorem dX1_lightLamps_4 : decode cX1_lightLamps 4 = .ok (.iload_n 3, 1) := by decide +kernel
theorem dX1_lightLamps_5 : decode cX1_lightLamps 5 = .ok (.aload_n 0, 1) := by decide +kernel
theorem dX1_lightLamps_6 : decode cX1_lightLamps 6 = .ok (.getfield 10, 3) := by decide +kernel
theorem dX1_lightLamps_9 : decode cX1_lightLamps 9 = .ok (.invokevirtual 27, 3) := by decide +kernel
theorem dX1_lightLamps_12 : decode cX1_lightLamps 12 = .ok (.if_icmp .ge 71, 3) := by decide +kernel
theorem dX1_lightLamps_15 : decode cX1_lightLamps 15 = .ok (.aload_n 0, 1) := by decide +kernel
theorem dX1_lightLamps_16 : decode cX1_lightLamps 16 = .ok (.getfield 10, 3) := by decide +kernel
theorem dX1_lightLamps_19 : decode cX1_lightLamps 19 = .ok (.iload_n 3, 1) := by decide +kernel
theorem dX1_lightLamps_20 : decode cX1_lightLamps 20 = .ok (.invokevirtual 93, 3) := by decide +kernel
theorem dX1_lightLamps_23 : decode cX1_lightLamps 23 = .ok (.checkcast 38, 3) := by decide +kernel
theorem dX1_lightLamps_26 : decode cX1_lightLamps 26 = .ok (.astore 4, 2) := by decide +kernel
theorem dX1_lightLamps_28 : decode cX1_lightLamps 28 = .ok (.aload 4, 2) := by decide +kernel
theorem dX1_lightLamps_30 : decode cX1_lightLamps 30 = .ok (.aload 4, 2) := by decide +kernel
theorem dX1_lightLamps_32 : decode cX1_lightLamps 32 = .ok (.iload_n 1, 1) := by decide +kernel
theorem dX1_lightLamps_33 : decode cX1_lightLamps 33 = .ok (.invokevirtual 79, 3) := by decide +kernel
theorem dX1_lightLamps_36 : decode cX1_lightLamps 36 = .ok (.ifCond .eq 21, 3) := by decide +kernel
theorem dX1_lightLamps_39 : decode cX1_lightLamps 39 = .ok (.iload_n 2, 1) := by decide +kernel
theorem dX1_lightLamps_40 : decode cX1_lightLamps 40 = .ok (.aload 4, 2) := by decide +kernel
theorem dX1_lightLamps_42 : decode cX1_lightLamps 42 = .ok (.getfield 184, 3) := by decide +kernel
theorem dX1_lightLamps_45 : decode cX1_lightLamps 45 = .ok (.iadd, 1) := by decide +kernel
theorem dX1_lightLamps_46 : decode cX1_lightLamps 46 = .ok (.aload_n 0, 1) := by decide +kernel
theorem dX1_lightLamps_47 : decode cX1_lightLamps 47 = .ok (.getfield 20, 3) := by decide +kernel
theorem dX1_lightLamps_50 : decode cX1_lightLamps 50 = .ok (.if_icmp .gt 7, 3) := by decide +kernel
theorem dX1_lightLamps_53 : decode cX1_lightLamps 53 = .ok (.iconst 1, 1) := by decide +kernel
theorem dX1_lightLamps_54 : decode cX1_lightLamps 54 = .ok (.goto 4, 3) := by decide +kernel
theorem dX1_lightLamps_57 : decode cX1_lightLamps 57 = .ok (.iconst 0, 1) := by decide +kernel
theorem dX1_lightLamps_58 : decode cX1_lightLamps 58 = .ok (.putfield 83, 3) := by decide +kernel
theorem dX1_lightLamps_61 : decode cX1_lightLamps 61 = .ok (.aload 4, 2) := by decide +kernel
theorem dX1_lightLamps_63 : decode cX1_lightLamps 63 = .ok (.getfield 83, 3) := by decide +kernel
theorem dX1_lightLamps_66 : decode cX1_lightLamps 66 = .ok (.ifCond .eq 11, 3) := by decide +kernel
theorem dX1_lightLamps_69 : decode cX1_lightLamps 69 = .ok (.iload_n 2, 1) := by decide +kernel
theorem dX1_lightLamps_70 : decode cX1_lightLamps 70 = .ok (.aload 4, 2) := by decide +kernel
theorem dX1_lightLamps_72 : decode cX1_lightLamps 72 = .ok (.getfield 184, 3) := by decide +kernel
theorem dX1_lightLamps_75 : decode cX1_lightLamps 75 = .ok (.iadd, 1) := by decide +kernel
theorem dX1_lightLamps_76 : decode cX1_lightLamps 76 = .ok (.istore_n 2, 1) := by decide +kernel
theorem dX1_lightLamps_77 : decode cX1_lightLamps 77 = .ok (.iinc 3 1, 3) := by decide +kernel
theorem dX1_lightLamps_80 : decode cX1_lightLamps 80 = .ok (.goto (-76), 3) := by decide +kernel
theorem dX1_lightLamps_83 : decode cX1_lightLamps 83 = .ok (.iload_n 2, 1) := by decide +kernel
theorem dX1_lightLamps_84 : decode cX1_lightLamps 84 = .ok (.ireturn, 1) := by decide +kernel
set_option maxRecDepth 20000 in
theorem ggX1_duePower_Jx4a65c_size_8abf5 : GoodIn wsX1_duePower wsJx4a65c_size_8abf5 := goodIn_r _ [8, 9, 51, 52, 53] (by decide +kernel) (by decide +kernel)
set_option maxRecDepth 20000 in
theorem gX1_duePower_Jx4a65c_size_8abf5 : GoodIn wsX1_duePower (wsV RX1 27 RJx4a65c yJx4a65c_size_8abf5 wsJx4a65c_size_8abf5) := goodIn_app (goodIn_of _ (by decide +kernel)) ggX1_duePower_Jx4a65c_size_8abf5
set_option maxRecDepth 20000 in
theorem ggX1_duePower_Jx4a65c_get_915e3 : GoodIn wsX1_duePower wsJx4a65c_get_915e3 := goodIn_r _ [13, 9, 14, 15, 16, 17, 18, 19, 20, 21, 22, 23, 24, 7, 25, 26, 51, 52, 53] (by decide +kernel) (by decide +kernel)
set_option maxRecDepth 20000 in
theorem gX1_duePower_Jx4a65c_get_915e3 : GoodIn wsX1_duePower (wsV RX1 93 RJx4a65c yJx4a65c_get_915e3 wsJx4a65c_get_915e3) := goodIn_app (goodIn_of _ (by decide +kernel)) ggX1_duePower_Jx4a65c_get_915e3
set_option maxRecDepth 20000 in
theorem ggX1_duePower_X0_dueAt : GoodIn wsX1_duePower wsX0_dueAt := goodIn_r _ [31, 32, 33, 34, 35, 30, 36, 37, 38, 42, 43, 44, 45, 46, 47, 48, 49, 50] (by decide +kernel) (by decide +kernel)
set_option maxRecDepth 20000 in
theorem gX1_duePower_X0_dueAt : GoodIn wsX1_duePower (wsV RX1 79 RX0 yX0_dueAt wsX0_dueAt) := goodIn_app (goodIn_of _ (by decide +kernel)) ggX1_duePower_X0_dueAt
theorem dX1_duePower_0 : decode cX1_duePower 0 = .ok (.iconst 0, 1) := by decide +kernel
theorem dX1_duePower_1 : decode cX1_duePower 1 = .ok (.istore_n 2, 1) := by decide +kernel
theorem dX1_duePower_2 : decode cX1_duePower 2 = .ok (.iconst 0, 1) := by decide +kernel
theorem dX1_duePower_3 : decode cX1_duePower 3 = .ok (.istore_n 3, 1) := by decide +kernel
theorem dX1_duePower_4 : decode cX1_duePower 4 = .ok (.iload_n 3, 1) := by decide +kernel
theorem dX1_duePower_5 : decode cX1_duePower 5 = .ok (.aload_n 0, 1) := by decide +kernel
theorem dX1_duePower_6 : decode cX1_duePower 6 = .ok (.getfield 10, 3) := by decide +kernel
theorem dX1_duePower_9 : decode cX1_duePower 9 = .ok (.invokevirtual 27, 3) := by decide +kernel
theorem dX1_duePower_12 : decode cX1_duePower 12 = .ok (.if_icmp .ge 39, 3) := by decide +kernel
theorem dX1_duePower_15 : decode cX1_duePower 15 = .ok (.aload_n 0, 1) := by decide +kernel
theorem dX1_duePower_16 : decode cX1_duePower 16 = .ok (.getfield 10, 3) := by decide +kernel
theorem dX1_duePower_19 : decode cX1_duePower 19 = .ok (.iload_n 3, 1) := by decide +kernel
theorem dX1_duePower_20 : decode cX1_duePower 20 = .ok (.invokevirtual 93, 3) := by decide +kernel
theorem dX1_duePower_23 : decode cX1_duePower 23 = .ok (.checkcast 38, 3) := by decide +kernel
theorem dX1_duePower_26 : decode cX1_duePower 26 = .ok (.astore 4, 2) := by decide +kernel
theorem dX1_duePower_28 : decode cX1_duePower 28 = .ok (.aload 4, 2) := by decide +kernel
theorem dX1_duePower_30 : decode cX1_duePower 30 = .ok (.iload_n 1, 1) := by decide +kernel
theorem dX1_duePower_31 : decode cX1_duePower 31 = .ok (.invokevirtual 79, 3) := by decide +kernel
theorem dX1_duePower_34 : decode cX1_duePower 34 = .ok (.ifCond .eq 11, 3) := by decide +kernel
theorem dX1_duePower_37 : decode cX1_duePower 37 = .ok (.iload_n 2, 1) := by decide +kernel
theorem dX1_duePower_38 : decode cX1_duePower 38 = .ok (.aload 4, 2) := by decide +kernel
theorem dX1_duePower_40 : decode cX1_duePower 40 = .ok (.getfield 184, 3) := by decide +kernel
theorem dX1_duePower_43 : decode cX1_duePower 43 = .ok (.iadd, 1) := by decide +kernel
theorem dX1_duePower_44 : decode cX1_duePower 44 = .ok (.istore_n 2, 1) := by decide +kernel
theorem dX1_duePower_45 : decode cX1_duePower 45 = .ok (.iinc 3 1, 3) := by decide +kernel
theorem dX1_duePower_48 : decode cX1_duePower 48 = .ok (.goto (-44), 3) := by decide +kernel
theorem dX1_duePower_51 : decode cX1_duePower 51 = .ok (.iload_n 2, 1) := by decide +kernel
theorem dX1_duePower_52 : decode cX1_duePower 52 = .ok (.ireturn, 1) := by decide +kernel
set_option maxRecDepth 20000 in
theorem ggX1_playBeat_X1_lightLamps : GoodIn wsX1_playBeat wsX1_lightLamps := goodIn_r _ [11, 2, 3, 12, 13, 4, 14, 15, 16, 17, 18, 19, 20, 21, 22, 23, 24, 25, 26, 27, 28, 29, 30, 31, 32, 33, 34, 35, 36, 37, 38, 39, 40, 41, 42, 43, 44, 45, 46, 47, 48, 49, 50, 51, 52, 53, 54, 55, 56, 57, 58, 59, 60, 61, 62, 63] (by decide +kernel) (by decide +kernel)
set_option maxRecDepth 20000 in
theorem gX1_playBeat_X1_lightLamps : GoodIn wsX1_playBeat (wsV RX1 72 RX1 yX1_lightLamps wsX1_lightLamps) := goodIn_app (goodIn_of _ (by decide +kernel)) ggX1_playBeat_X1_lightLamps
set_option maxRecDepth 20000 in
theorem ggX1_playBeat_Jx4a65c_size_8abf5 : GoodIn wsX1_playBeat wsJx4a65c_size_8abf5 := goodIn_r _ [18, 19, 61, 62, 63] (by decide +kernel) (by decide +kernel)
set_option maxRecDepth 20000 in
theorem gX1_playBeat_Jx4a65c_size_8abf5 : GoodIn wsX1_playBeat (wsV RX1 27 RJx4a65c yJx4a65c_size_8abf5 wsJx4a65c_size_8abf5) := goodIn_app (goodIn_of _ (by decide +kernel)) ggX1_playBeat_Jx4a65c_size_8abf5
set_option maxRecDepth 20000 in
theorem ggX1_playBeat_Jx4a65c_get_915e3 : GoodIn wsX1_playBeat wsJx4a65c_get_915e3 := goodIn_r _ [23, 19, 24, 25, 26, 27, 28, 29, 30, 31, 32, 33, 34, 17, 35, 36, 61, 62, 63] (by decide +kernel) (by decide +kernel)
set_option maxRecDepth 20000 in
theorem gX1_playBeat_Jx4a65c_get_915e3 : GoodIn wsX1_playBeat (wsV RX1 93 RJx4a65c yJx4a65c_get_915e3 wsJx4a65c_get_915e3) := goodIn_app (goodIn_of _ (by decide +kernel)) ggX1_playBeat_Jx4a65c_get_915e3
set_option maxRecDepth 20000 in
theorem ggX1_playBeat_X0_dueAt : GoodIn wsX1_playBeat wsX0_dueAt := goodIn_r _ [41, 42, 43, 44, 45, 40, 46, 47, 48, 52, 53, 54, 55, 56, 57, 58, 59, 60] (by decide +kernel) (by decide +kernel)
set_option maxRecDepth 20000 in
theorem gX1_playBeat_X0_dueAt : GoodIn wsX1_playBeat (wsV RX1 79 RX0 yX0_dueAt wsX0_dueAt) := goodIn_app (goodIn_of _ (by decide +kernel)) ggX1_playBeat_X0_dueAt
theorem dX1_playBeat_0 : decode cX1_playBeat 0 = .ok (.aload_n 0, 1) := by decide +kernel
theorem dX1_playBeat_1 : decode cX1_playBeat 1 = .ok (.aload_n 0, 1) := by decide +kernel
theorem dX1_playBeat_2 : decode cX1_playBeat 2 = .ok (.getfield 16, 3) := by decide +kernel
theorem dX1_playBeat_5 : decode cX1_playBeat 5 = .ok (.invokevirtual 72, 3) := by decide +kernel
theorem dX1_playBeat_8 : decode cX1_playBeat 8 = .ok (.pop, 1) := by decide +kernel
theorem dX1_playBeat_9 : decode cX1_playBeat 9 = .ok (.iconst 0, 1) := by decide +kernel
theorem dX1_playBeat_10 : decode cX1_playBeat 10 = .ok (.istore_n 1, 1) := by decide +kernel
theorem dX1_playBeat_11 : decode cX1_playBeat 11 = .ok (.iconst 0, 1) := by decide +kernel
theorem dX1_playBeat_12 : decode cX1_playBeat 12 = .ok (.istore_n 2, 1) := by decide +kernel
theorem dX1_playBeat_13 : decode cX1_playBeat 13 = .ok (.iload_n 2, 1) := by decide +kernel
theorem dX1_playBeat_14 : decode cX1_playBeat 14 = .ok (.aload_n 0, 1) := by decide +kernel
theorem dX1_playBeat_15 : decode cX1_playBeat 15 = .ok (.getfield 10, 3) := by decide +kernel
theorem dX1_playBeat_18 : decode cX1_playBeat 18 = .ok (.invokevirtual 27, 3) := by decide +kernel
theorem dX1_playBeat_21 : decode cX1_playBeat 21 = .ok (.if_icmp .ge 64, 3) := by decide +kernel
theorem dX1_playBeat_24 : decode cX1_playBeat 24 = .ok (.aload_n 0, 1) := by decide +kernel
theorem dX1_playBeat_25 : decode cX1_playBeat 25 = .ok (.getfield 10, 3) := by decide +kernel
theorem dX1_playBeat_28 : decode cX1_playBeat 28 = .ok (.iload_n 2, 1) := by decide +kernel
theorem dX1_playBeat_29 : decode cX1_playBeat 29 = .ok (.invokevirtual 93, 3) := by decide +kernel
theorem dX1_playBeat_32 : decode cX1_playBeat 32 = .ok (.checkcast 38, 3) := by decide +kernel
theorem dX1_playBeat_35 : decode cX1_playBeat 35 = .ok (.astore_n 3, 1) := by decide +kernel
theorem dX1_playBeat_36 : decode cX1_playBeat 36 = .ok (.aload_n 3, 1) := by decide +kernel
theorem dX1_playBeat_37 : decode cX1_playBeat 37 = .ok (.getfield 83, 3) := by decide +kernel
theorem dX1_playBeat_40 : decode cX1_playBeat 40 = .ok (.ifCond .eq 16, 3) := by decide +kernel
theorem dX1_playBeat_43 : decode cX1_playBeat 43 = .ok (.aload_n 3, 1) := by decide +kernel
theorem dX1_playBeat_44 : decode cX1_playBeat 44 = .ok (.dup, 1) := by decide +kernel
theorem dX1_playBeat_45 : decode cX1_playBeat 45 = .ok (.getfield 87, 3) := by decide +kernel
theorem dX1_playBeat_48 : decode cX1_playBeat 48 = .ok (.iconst 1, 1) := by decide +kernel
theorem dX1_playBeat_49 : decode cX1_playBeat 49 = .ok (.iadd, 1) := by decide +kernel
theorem dX1_playBeat_50 : decode cX1_playBeat 50 = .ok (.putfield 87, 3) := by decide +kernel
theorem dX1_playBeat_53 : decode cX1_playBeat 53 = .ok (.goto 26, 3) := by decide +kernel
theorem dX1_playBeat_56 : decode cX1_playBeat 56 = .ok (.aload_n 3, 1) := by decide +kernel
theorem dX1_playBeat_57 : decode cX1_playBeat 57 = .ok (.aload_n 0, 1) := by decide +kernel
theorem dX1_playBeat_58 : decode cX1_playBeat 58 = .ok (.getfield 16, 3) := by decide +kernel
theorem dX1_playBeat_61 : decode cX1_playBeat 61 = .ok (.invokevirtual 79, 3) := by decide +kernel
theorem dX1_playBeat_64 : decode cX1_playBeat 64 = .ok (.ifCond .eq 15, 3) := by decide +kernel
theorem dX1_playBeat_67 : decode cX1_playBeat 67 = .ok (.aload_n 3, 1) := by decide +kernel
theorem dX1_playBeat_68 : decode cX1_playBeat 68 = .ok (.dup, 1) := by decide +kernel
theorem dX1_playBeat_69 : decode cX1_playBeat 69 = .ok (.getfield 90, 3) := by decide +kernel
theorem dX1_playBeat_72 : decode cX1_playBeat 72 = .ok (.iconst 1, 1) := by decide +kernel
theorem dX1_playBeat_73 : decode cX1_playBeat 73 = .ok (.iadd, 1) := by decide +kernel
theorem dX1_playBeat_74 : decode cX1_playBeat 74 = .ok (.putfield 90, 3) := by decide +kernel
theorem dX1_playBeat_77 : decode cX1_playBeat 77 = .ok (.iconst 1, 1) := by decide +kernel
theorem dX1_playBeat_78 : decode cX1_playBeat 78 = .ok (.istore_n 1, 1) := by decide +kernel
theorem dX1_playBeat_79 : decode cX1_playBeat 79 = .ok (.iinc 2 1, 3) := by decide +kernel
theorem dX1_playBeat_82 : decode cX1_playBeat 82 = .ok (.goto (-69), 3) := by decide +kernel
theorem dX1_playBeat_85 : decode cX1_playBeat 85 = .ok (.aload_n 0, 1) := by decide +kernel
theorem dX1_playBeat_86 : decode cX1_playBeat 86 = .ok (.dup, 1) := by decide +kernel
theorem dX1_playBeat_87 : decode cX1_playBeat 87 = .ok (.getfield 16, 3) := by decide +kernel
theorem dX1_playBeat_90 : decode cX1_playBeat 90 = .ok (.iconst 1, 1) := by decide +kernel
theorem dX1_playBeat_91 : decode cX1_playBeat 91 = .ok (.iadd, 1) := by decide +kernel
theorem dX1_playBeat_92 : decode cX1_playBeat 92 = .ok (.putfield 16, 3) := by decide +kernel
theorem dX1_playBeat_95 : decode cX1_playBeat 95 = .ok (.iload_n 1, 1) := by decide +kernel
theorem dX1_playBeat_96 : decode cX1_playBeat 96 = .ok (.ireturn, 1) := by decide +kernel
set_option maxRecDepth 20000 in
theorem ggX1_unfairnessBehind_Jx4a65c_size_8abf5 : GoodIn wsX1_unfairnessBehind wsJx4a65c_size_8abf5 := goodIn_r _ [10, 11, 81, 82, 83] (by decide +kernel) (by decide +kernel)
set_option maxRecDepth 20000 in
theorem gX1_unfairnessBehind_Jx4a65c_size_8abf5 : GoodIn wsX1_unfairnessBehind (wsV RX1 27 RJx4a65c yJx4a65c_size_8abf5 wsJx4a65c_size_8abf5) := goodIn_app (goodIn_of _ (by decide +kernel)) ggX1_unfairnessBehind_Jx4a65c_size_8abf5
set_option maxRecDepth 20000 in
theorem ggX1_unfairnessBehind_Jx4a65c_get_915e3 : GoodIn wsX1_unfairnessBehind wsJx4a65c_get_915e3 := goodIn_r _ [15, 11, 16, 17, 18, 19, 20, 21, 22, 23, 24, 25, 26, 9, 27, 28, 81, 82, 83] (by decide +kernel) (by decide +kernel)
set_option maxRecDepth 20000 in
theorem gX1_unfairnessBehind_Jx4a65c_get_915e3 : GoodIn wsX1_unfairnessBehind (wsV RX1 93 RJx4a65c yJx4a65c_get_915e3 wsJx4a65c_get_915e3) := goodIn_app (goodIn_of _ (by decide +kernel)) ggX1_unfairnessBehind_Jx4a65c_get_915e3
set_option maxRecDepth 20000 in
theorem ggX1_unfairnessBehind_X1_foreseeBeat : GoodIn wsX1_unfairnessBehind wsX1_foreseeBeat := goodIn_r _ [33, 1, 2, 34, 4, 35, 36, 37, 32, 38, 39, 40, 6, 7, 8, 9, 10, 11, 12, 13, 14, 15, 16, 17, 18, 19, 20, 21, 22, 23, 24, 25, 26, 27, 28, 41, 42, 43, 44, 45, 46, 47, 48, 49, 50, 51, 52, 69, 70, 71, 72, 73, 74, 75, 76, 77, 78, 79, 80, 81, 82, 83] (by decide +kernel) (by decide +kernel)
set_option maxRecDepth 20000 in
theorem gX1_unfairnessBehind_X1_foreseeBeat : GoodIn wsX1_unfairnessBehind (wsV RX1 189 RX1 yX1_foreseeBeat wsX1_foreseeBeat) := goodIn_app (goodIn_of _ (by decide +kernel)) ggX1_unfairnessBehind_X1_foreseeBeat
set_option maxRecDepth 20000 in
theorem ggX1_unfairnessBehind_X1_foreseenSpread : GoodIn wsX1_unfairnessBehind wsX1_foreseenSpread := goodIn_r _ [56, 57, 58, 59, 60, 61, 62, 63, 64, 65, 66, 32, 67, 1, 2, 68, 4, 6, 7, 8, 9, 10, 11, 12, 13, 14, 15, 16, 17, 18, 19, 20, 21, 22, 23, 24, 25, 26, 27, 28, 69, 70, 71, 72, 73, 74, 75, 76, 77, 78, 79, 80, 81, 82, 83] (by decide +kernel) (by decide +kernel)
set_option maxRecDepth 20000 in
theorem gX1_unfairnessBehind_X1_foreseenSpread : GoodIn wsX1_unfairnessBehind (wsV RX1 193 RX1 yX1_foreseenSpread wsX1_foreseenSpread) := goodIn_app (goodIn_of _ (by decide +kernel)) ggX1_unfairnessBehind_X1_foreseenSpread
theorem dX1_unfairnessBehind_0 : decode cX1_unfairnessBehind 0 = .ok (.iconst 0, 1) := by decide +kernel
theorem dX1_unfairnessBehind_1 : decode cX1_unfairnessBehind 1 = .ok (.istore_n 2, 1) := by decide +kernel
theorem dX1_unfairnessBehind_2 : decode cX1_unfairnessBehind 2 = .ok (.iload_n 2, 1) := by decide +kernel
theorem dX1_unfairnessBehind_3 : decode cX1_unfairnessBehind 3 = .ok (.aload_n 0, 1) := by decide +kernel
theorem dX1_unfairnessBehind_4 : decode cX1_unfairnessBehind 4 = .ok (.getfield 10, 3) := by decide +kernel
theorem dX1_unfairnessBehind_7 : decode cX1_unfairnessBehind 7 = .ok (.invokevirtual 27, 3) := by decide +kernel
theorem dX1_unfairnessBehind_10 : decode cX1_unfairnessBehind 10 = .ok (.if_icmp .ge 29, 3) := by decide +kernel
theorem dX1_unfairnessBehind_13 : decode cX1_unfairnessBehind 13 = .ok (.aload_n 0, 1) := by decide +kernel
theorem dX1_unfairnessBehind_14 : decode cX1_unfairnessBehind 14 = .ok (.getfield 10, 3) := by decide +kernel
theorem dX1_unfairnessBehind_17 : decode cX1_unfairnessBehind 17 = .ok (.iload_n 2, 1) := by decide +kernel
theorem dX1_unfairnessBehind_18 : decode cX1_unfairnessBehind 18 = .ok (.invokevirtual 93, 3) := by decide +kernel
theorem dX1_unfairnessBehind_21 : decode cX1_unfairnessBehind 21 = .ok (.checkcast 38, 3) := by decide +kernel
theorem dX1_unfairnessBehind_24 : decode cX1_unfairnessBehind 24 = .ok (.astore_n 3, 1) := by decide +kernel
theorem dX1_unfairnessBehind_25 : decode cX1_unfairnessBehind 25 = .ok (.aload_n 3, 1) := by decide +kernel
theorem dX1_unfairnessBehind_26 : decode cX1_unfairnessBehind 26 = .ok (.aload_n 3, 1) := by decide +kernel
theorem dX1_unfairnessBehind_27 : decode cX1_unfairnessBehind 27 = .ok (.getfield 87, 3) := by decide +kernel
theorem dX1_unfairnessBehind_30 : decode cX1_unfairnessBehind 30 = .ok (.putfield 186, 3) := by decide +kernel
theorem dX1_unfairnessBehind_33 : decode cX1_unfairnessBehind 33 = .ok (.iinc 2 1, 3) := by decide +kernel
theorem dX1_unfairnessBehind_36 : decode cX1_unfairnessBehind 36 = .ok (.goto (-34), 3) := by decide +kernel
theorem dX1_unfairnessBehind_39 : decode cX1_unfairnessBehind 39 = .ok (.iconst 0, 1) := by decide +kernel
theorem dX1_unfairnessBehind_40 : decode cX1_unfairnessBehind 40 = .ok (.istore_n 2, 1) := by decide +kernel
theorem dX1_unfairnessBehind_41 : decode cX1_unfairnessBehind 41 = .ok (.iload_n 2, 1) := by decide +kernel
theorem dX1_unfairnessBehind_42 : decode cX1_unfairnessBehind 42 = .ok (.iload_n 1, 1) := by decide +kernel
theorem dX1_unfairnessBehind_43 : decode cX1_unfairnessBehind 43 = .ok (.if_icmp .ge 19, 3) := by decide +kernel
theorem dX1_unfairnessBehind_46 : decode cX1_unfairnessBehind 46 = .ok (.aload_n 0, 1) := by decide +kernel
theorem dX1_unfairnessBehind_47 : decode cX1_unfairnessBehind 47 = .ok (.aload_n 0, 1) := by decide +kernel
theorem dX1_unfairnessBehind_48 : decode cX1_unfairnessBehind 48 = .ok (.getfield 16, 3) := by decide +kernel
theorem dX1_unfairnessBehind_51 : decode cX1_unfairnessBehind 51 = .ok (.iload_n 2, 1) := by decide +kernel
theorem dX1_unfairnessBehind_52 : decode cX1_unfairnessBehind 52 = .ok (.iadd, 1) := by decide +kernel
theorem dX1_unfairnessBehind_53 : decode cX1_unfairnessBehind 53 = .ok (.invokevirtual 189, 3) := by decide +kernel
theorem dX1_unfairnessBehind_56 : decode cX1_unfairnessBehind 56 = .ok (.iinc 2 1, 3) := by decide +kernel
theorem dX1_unfairnessBehind_59 : decode cX1_unfairnessBehind 59 = .ok (.goto (-18), 3) := by decide +kernel
theorem dX1_unfairnessBehind_62 : decode cX1_unfairnessBehind 62 = .ok (.aload_n 0, 1) := by decide +kernel
theorem dX1_unfairnessBehind_63 : decode cX1_unfairnessBehind 63 = .ok (.invokevirtual 193, 3) := by decide +kernel
theorem dX1_unfairnessBehind_66 : decode cX1_unfairnessBehind 66 = .ok (.ireturn, 1) := by decide +kernel
set_option maxRecDepth 20000 in
theorem ggX1_foreseeBeat_X1_lightLamps : GoodIn wsX1_foreseeBeat wsX1_lightLamps := goodIn_r _ [9, 1, 2, 10, 11, 3, 12, 13, 14, 15, 16, 17, 18, 19, 20, 21, 22, 23, 24, 25, 26, 27, 28, 29, 30, 31, 32, 33, 34, 35, 36, 37, 38, 39, 40, 41, 42, 43, 44, 45, 46, 47, 48, 49, 50, 51, 52, 53, 54, 55, 56, 57, 58, 59, 60, 61] (by decide +kernel) (by decide +kernel)
set_option maxRecDepth 20000 in
theorem gX1_foreseeBeat_X1_lightLamps : GoodIn wsX1_foreseeBeat (wsV RX1 72 RX1 yX1_lightLamps wsX1_lightLamps) := goodIn_app (goodIn_of _ (by decide +kernel)) ggX1_foreseeBeat_X1_lightLamps
set_option maxRecDepth 20000 in
theorem ggX1_foreseeBeat_Jx4a65c_size_8abf5 : GoodIn wsX1_foreseeBeat wsJx4a65c_size_8abf5 := goodIn_r _ [16, 17, 59, 60, 61] (by decide +kernel) (by decide +kernel)
set_option maxRecDepth 20000 in
theorem gX1_foreseeBeat_Jx4a65c_size_8abf5 : GoodIn wsX1_foreseeBeat (wsV RX1 27 RJx4a65c yJx4a65c_size_8abf5 wsJx4a65c_size_8abf5) := goodIn_app (goodIn_of _ (by decide +kernel)) ggX1_foreseeBeat_Jx4a65c_size_8abf5
set_option maxRecDepth 20000 in
theorem ggX1_foreseeBeat_Jx4a65c_get_915e3 : GoodIn wsX1_foreseeBeat wsJx4a65c_get_915e3 := goodIn_r _ [21, 17, 22, 23, 24, 25, 26, 27, 28, 29, 30, 31, 32, 15, 33, 34, 59, 60, 61] (by decide +kernel) (by decide +kernel)
set_option maxRecDepth 20000 in
theorem gX1_foreseeBeat_Jx4a65c_get_915e3 : GoodIn wsX1_foreseeBeat (wsV RX1 93 RJx4a65c yJx4a65c_get_915e3 wsJx4a65c_get_915e3) := goodIn_app (goodIn_of _ (by decide +kernel)) ggX1_foreseeBeat_Jx4a65c_get_915e3
theorem dX1_foreseeBeat_0 : decode cX1_foreseeBeat 0 = .ok (.aload_n 0, 1) := by decide +kernel
theorem dX1_foreseeBeat_1 : decode cX1_foreseeBeat 1 = .ok (.iload_n 1, 1) := by decide +kernel
theorem dX1_foreseeBeat_2 : decode cX1_foreseeBeat 2 = .ok (.invokevirtual 72, 3) := by decide +kernel
theorem dX1_foreseeBeat_5 : decode cX1_foreseeBeat 5 = .ok (.pop, 1) := by decide +kernel
theorem dX1_foreseeBeat_6 : decode cX1_foreseeBeat 6 = .ok (.iconst 0, 1) := by decide +kernel
theorem dX1_foreseeBeat_7 : decode cX1_foreseeBeat 7 = .ok (.istore_n 2, 1) := by decide +kernel
theorem dX1_foreseeBeat_8 : decode cX1_foreseeBeat 8 = .ok (.iload_n 2, 1) := by decide +kernel
theorem dX1_foreseeBeat_9 : decode cX1_foreseeBeat 9 = .ok (.aload_n 0, 1) := by decide +kernel
theorem dX1_foreseeBeat_10 : decode cX1_foreseeBeat 10 = .ok (.getfield 10, 3) := by decide +kernel
theorem dX1_foreseeBeat_13 : decode cX1_foreseeBeat 13 = .ok (.invokevirtual 27, 3) := by decide +kernel
theorem dX1_foreseeBeat_16 : decode cX1_foreseeBeat 16 = .ok (.if_icmp .ge 38, 3) := by decide +kernel
theorem dX1_foreseeBeat_19 : decode cX1_foreseeBeat 19 = .ok (.aload_n 0, 1) := by decide +kernel
theorem dX1_foreseeBeat_20 : decode cX1_foreseeBeat 20 = .ok (.getfield 10, 3) := by decide +kernel
theorem dX1_foreseeBeat_23 : decode cX1_foreseeBeat 23 = .ok (.iload_n 2, 1) := by decide +kernel
theorem dX1_foreseeBeat_24 : decode cX1_foreseeBeat 24 = .ok (.invokevirtual 93, 3) := by decide +kernel
theorem dX1_foreseeBeat_27 : decode cX1_foreseeBeat 27 = .ok (.checkcast 38, 3) := by decide +kernel
theorem dX1_foreseeBeat_30 : decode cX1_foreseeBeat 30 = .ok (.astore_n 3, 1) := by decide +kernel
theorem dX1_foreseeBeat_31 : decode cX1_foreseeBeat 31 = .ok (.aload_n 3, 1) := by decide +kernel
theorem dX1_foreseeBeat_32 : decode cX1_foreseeBeat 32 = .ok (.getfield 83, 3) := by decide +kernel
theorem dX1_foreseeBeat_35 : decode cX1_foreseeBeat 35 = .ok (.ifCond .eq 13, 3) := by decide +kernel
theorem dX1_foreseeBeat_38 : decode cX1_foreseeBeat 38 = .ok (.aload_n 3, 1) := by decide +kernel
theorem dX1_foreseeBeat_39 : decode cX1_foreseeBeat 39 = .ok (.dup, 1) := by decide +kernel
theorem dX1_foreseeBeat_40 : decode cX1_foreseeBeat 40 = .ok (.getfield 186, 3) := by decide +kernel
theorem dX1_foreseeBeat_43 : decode cX1_foreseeBeat 43 = .ok (.iconst 1, 1) := by decide +kernel
theorem dX1_foreseeBeat_44 : decode cX1_foreseeBeat 44 = .ok (.iadd, 1) := by decide +kernel
theorem dX1_foreseeBeat_45 : decode cX1_foreseeBeat 45 = .ok (.putfield 186, 3) := by decide +kernel
theorem dX1_foreseeBeat_48 : decode cX1_foreseeBeat 48 = .ok (.iinc 2 1, 3) := by decide +kernel
theorem dX1_foreseeBeat_51 : decode cX1_foreseeBeat 51 = .ok (.goto (-43), 3) := by decide +kernel
theorem dX1_foreseeBeat_54 : decode cX1_foreseeBeat 54 = .ok (.return_, 1) := by decide +kernel
set_option maxRecDepth 20000 in
theorem ggX1_foreseenSpread_X1_foreseenOf : GoodIn wsX1_foreseenSpread wsX1_foreseenOf := goodIn_r _ [12, 13, 14, 15, 1, 2, 3, 4, 16, 17, 18, 19, 20, 21, 22, 23, 24, 25, 26, 27, 28, 29, 30, 31, 32, 33, 34, 35, 36, 37, 38, 39, 40, 41, 42, 43, 44, 45, 46, 47, 48, 49, 50, 51, 52, 53, 54] (by decide +kernel) (by decide +kernel)
set_option maxRecDepth 20000 in
theorem gX1_foreseenSpread_X1_foreseenOf : GoodIn wsX1_foreseenSpread (wsV RX1 196 RX1 yX1_foreseenOf wsX1_foreseenOf) := goodIn_app (goodIn_of _ (by decide +kernel)) ggX1_foreseenSpread_X1_foreseenOf
theorem dX1_foreseenSpread_0 : decode cX1_foreseenSpread 0 = .ok (.iconst (-1), 1) := by decide +kernel
theorem dX1_foreseenSpread_1 : decode cX1_foreseenSpread 1 = .ok (.istore_n 1, 1) := by decide +kernel
theorem dX1_foreseenSpread_2 : decode cX1_foreseenSpread 2 = .ok (.iconst (-1), 1) := by decide +kernel
theorem dX1_foreseenSpread_3 : decode cX1_foreseenSpread 3 = .ok (.istore_n 2, 1) := by decide +kernel
theorem dX1_foreseenSpread_4 : decode cX1_foreseenSpread 4 = .ok (.iconst 0, 1) := by decide +kernel
theorem dX1_foreseenSpread_5 : decode cX1_foreseenSpread 5 = .ok (.istore_n 3, 1) := by decide +kernel
theorem dX1_foreseenSpread_6 : decode cX1_foreseenSpread 6 = .ok (.iload_n 3, 1) := by decide +kernel
theorem dX1_foreseenSpread_7 : decode cX1_foreseenSpread 7 = .ok (.bipush 6, 2) := by decide +kernel
theorem dX1_foreseenSpread_9 : decode cX1_foreseenSpread 9 = .ok (.if_icmp .ge 44, 3) := by decide +kernel
theorem dX1_foreseenSpread_12 : decode cX1_foreseenSpread 12 = .ok (.aload_n 0, 1) := by decide +kernel
theorem dX1_foreseenSpread_13 : decode cX1_foreseenSpread 13 = .ok (.iload_n 3, 1) := by decide +kernel
theorem dX1_foreseenSpread_14 : decode cX1_foreseenSpread 14 = .ok (.invokevirtual 196, 3) := by decide +kernel
theorem dX1_foreseenSpread_17 : decode cX1_foreseenSpread 17 = .ok (.istore 4, 2) := by decide +kernel
theorem dX1_foreseenSpread_19 : decode cX1_foreseenSpread 19 = .ok (.iload 4, 2) := by decide +kernel
theorem dX1_foreseenSpread_21 : decode cX1_foreseenSpread 21 = .ok (.ifCond .lt 26, 3) := by decide +kernel
theorem dX1_foreseenSpread_24 : decode cX1_foreseenSpread 24 = .ok (.iload_n 1, 1) := by decide +kernel
theorem dX1_foreseenSpread_25 : decode cX1_foreseenSpread 25 = .ok (.iload 4, 2) := by decide +kernel
theorem dX1_foreseenSpread_27 : decode cX1_foreseenSpread 27 = .ok (.invokestatic 126, 3) := by decide +kernel
theorem dX1_foreseenSpread_30 : decode cX1_foreseenSpread 30 = .ok (.istore_n 1, 1) := by decide +kernel
theorem dX1_foreseenSpread_31 : decode cX1_foreseenSpread 31 = .ok (.iload_n 2, 1) := by decide +kernel
theorem dX1_foreseenSpread_32 : decode cX1_foreseenSpread 32 = .ok (.ifCond .ge 8, 3) := by decide +kernel
theorem dX1_foreseenSpread_35 : decode cX1_foreseenSpread 35 = .ok (.iload 4, 2) := by decide +kernel
theorem dX1_foreseenSpread_37 : decode cX1_foreseenSpread 37 = .ok (.goto 9, 3) := by decide +kernel
theorem dX1_foreseenSpread_40 : decode cX1_foreseenSpread 40 = .ok (.iload_n 2, 1) := by decide +kernel
theorem dX1_foreseenSpread_41 : decode cX1_foreseenSpread 41 = .ok (.iload 4, 2) := by decide +kernel
theorem dX1_foreseenSpread_43 : decode cX1_foreseenSpread 43 = .ok (.invokestatic 199, 3) := by decide +kernel
theorem dX1_foreseenSpread_46 : decode cX1_foreseenSpread 46 = .ok (.istore_n 2, 1) := by decide +kernel
theorem dX1_foreseenSpread_47 : decode cX1_foreseenSpread 47 = .ok (.iinc 3 1, 3) := by decide +kernel
theorem dX1_foreseenSpread_50 : decode cX1_foreseenSpread 50 = .ok (.goto (-44), 3) := by decide +kernel
theorem dX1_foreseenSpread_53 : decode cX1_foreseenSpread 53 = .ok (.iload_n 1, 1) := by decide +kernel
theorem dX1_foreseenSpread_54 : decode cX1_foreseenSpread 54 = .ok (.iload_n 2, 1) := by decide +kernel
theorem dX1_foreseenSpread_55 : decode cX1_foreseenSpread 55 = .ok (.isub, 1) := by decide +kernel
theorem dX1_foreseenSpread_56 : decode cX1_foreseenSpread 56 = .ok (.ireturn, 1) := by decide +kernel
set_option maxRecDepth 20000 in
theorem ggX1_foreseenOf_Jx4a65c_size_8abf5 : GoodIn wsX1_foreseenOf wsJx4a65c_size_8abf5 := goodIn_r _ [13, 14, 44, 45, 46] (by decide +kernel) (by decide +kernel)
set_option maxRecDepth 20000 in
theorem gX1_foreseenOf_Jx4a65c_size_8abf5 : GoodIn wsX1_foreseenOf (wsV RX1 27 RJx4a65c yJx4a65c_size_8abf5 wsJx4a65c_size_8abf5) := goodIn_app (goodIn_of _ (by decide +kernel)) ggX1_foreseenOf_Jx4a65c_size_8abf5
set_option maxRecDepth 20000 in
theorem ggX1_foreseenOf_Jx4a65c_get_915e3 : GoodIn wsX1_foreseenOf wsJx4a65c_get_915e3 := goodIn_r _ [18, 14, 19, 20, 21, 22, 23, 24, 25, 26, 27, 28, 29, 12, 30, 31, 44, 45, 46] (by decide +kernel) (by decide +kernel)
set_option maxRecDepth 20000 in
theorem gX1_foreseenOf_Jx4a65c_get_915e3 : GoodIn wsX1_foreseenOf (wsV RX1 93 RJx4a65c yJx4a65c_get_915e3 wsJx4a65c_get_915e3) := goodIn_app (goodIn_of _ (by decide +kernel)) ggX1_foreseenOf_Jx4a65c_get_915e3
theorem dX1_foreseenOf_0 : decode cX1_foreseenOf 0 = .ok (.iconst (-1), 1) := by decide +kernel
theorem dX1_foreseenOf_1 : decode cX1_foreseenOf 1 = .ok (.istore_n 2, 1) := by decide +kernel
theorem dX1_foreseenOf_2 : decode cX1_foreseenOf 2 = .ok (.iconst 0, 1) := by decide +kernel
theorem dX1_foreseenOf_3 : decode cX1_foreseenOf 3 = .ok (.istore_n 3, 1) := by decide +kernel
theorem dX1_foreseenOf_4 : decode cX1_foreseenOf 4 = .ok (.iload_n 3, 1) := by decide +kernel
theorem dX1_foreseenOf_5 : decode cX1_foreseenOf 5 = .ok (.aload_n 0, 1) := by decide +kernel
theorem dX1_foreseenOf_6 : decode cX1_foreseenOf 6 = .ok (.getfield 10, 3) := by decide +kernel
theorem dX1_foreseenOf_9 : decode cX1_foreseenOf 9 = .ok (.invokevirtual 27, 3) := by decide +kernel
theorem dX1_foreseenOf_12 : decode cX1_foreseenOf 12 = .ok (.if_icmp .ge 43, 3) := by decide +kernel
theorem dX1_foreseenOf_15 : decode cX1_foreseenOf 15 = .ok (.aload_n 0, 1) := by decide +kernel
theorem dX1_foreseenOf_16 : decode cX1_foreseenOf 16 = .ok (.getfield 10, 3) := by decide +kernel
theorem dX1_foreseenOf_19 : decode cX1_foreseenOf 19 = .ok (.iload_n 3, 1) := by decide +kernel
theorem dX1_foreseenOf_20 : decode cX1_foreseenOf 20 = .ok (.invokevirtual 93, 3) := by decide +kernel
theorem dX1_foreseenOf_23 : decode cX1_foreseenOf 23 = .ok (.checkcast 38, 3) := by decide +kernel
theorem dX1_foreseenOf_26 : decode cX1_foreseenOf 26 = .ok (.astore 4, 2) := by decide +kernel
theorem dX1_foreseenOf_28 : decode cX1_foreseenOf 28 = .ok (.aload 4, 2) := by decide +kernel
theorem dX1_foreseenOf_30 : decode cX1_foreseenOf 30 = .ok (.getfield 65, 3) := by decide +kernel
theorem dX1_foreseenOf_33 : decode cX1_foreseenOf 33 = .ok (.iload_n 1, 1) := by decide +kernel
theorem dX1_foreseenOf_34 : decode cX1_foreseenOf 34 = .ok (.if_icmp .ne 15, 3) := by decide +kernel
theorem dX1_foreseenOf_37 : decode cX1_foreseenOf 37 = .ok (.iload_n 2, 1) := by decide +kernel
theorem dX1_foreseenOf_38 : decode cX1_foreseenOf 38 = .ok (.iconst 0, 1) := by decide +kernel
theorem dX1_foreseenOf_39 : decode cX1_foreseenOf 39 = .ok (.invokestatic 126, 3) := by decide +kernel
theorem dX1_foreseenOf_42 : decode cX1_foreseenOf 42 = .ok (.aload 4, 2) := by decide +kernel
theorem dX1_foreseenOf_44 : decode cX1_foreseenOf 44 = .ok (.getfield 186, 3) := by decide +kernel
theorem dX1_foreseenOf_47 : decode cX1_foreseenOf 47 = .ok (.iadd, 1) := by decide +kernel
theorem dX1_foreseenOf_48 : decode cX1_foreseenOf 48 = .ok (.istore_n 2, 1) := by decide +kernel
theorem dX1_foreseenOf_49 : decode cX1_foreseenOf 49 = .ok (.iinc 3 1, 3) := by decide +kernel
theorem dX1_foreseenOf_52 : decode cX1_foreseenOf 52 = .ok (.goto (-48), 3) := by decide +kernel
theorem dX1_foreseenOf_55 : decode cX1_foreseenOf 55 = .ok (.iload_n 2, 1) := by decide +kernel
theorem dX1_foreseenOf_56 : decode cX1_foreseenOf 56 = .ok (.ireturn, 1) := by decide +kernel
set_option maxRecDepth 20000 in
theorem ggX1_countMet_Jx4a65c_size_8abf5 : GoodIn wsX1_countMet wsJx4a65c_size_8abf5 := goodIn_r _ [7, 8, 41, 42, 43] (by decide +kernel) (by decide +kernel)
set_option maxRecDepth 20000 in
theorem gX1_countMet_Jx4a65c_size_8abf5 : GoodIn wsX1_countMet (wsV RX1 27 RJx4a65c yJx4a65c_size_8abf5 wsJx4a65c_size_8abf5) := goodIn_app (goodIn_of _ (by decide +kernel)) ggX1_countMet_Jx4a65c_size_8abf5
set_option maxRecDepth 20000 in
theorem ggX1_countMet_Jx4a65c_get_915e3 : GoodIn wsX1_countMet wsJx4a65c_get_915e3 := goodIn_r _ [12, 8, 13, 14, 15, 16, 17, 18, 19, 20, 21, 22, 23, 6, 24, 25, 41, 42, 43] (by decide +kernel) (by decide +kernel)
set_option maxRecDepth 20000 in
theorem gX1_countMet_Jx4a65c_get_915e3 : GoodIn wsX1_countMet (wsV RX1 93 RJx4a65c yJx4a65c_get_915e3 wsJx4a65c_get_915e3) := goodIn_app (goodIn_of _ (by decide +kernel)) ggX1_countMet_Jx4a65c_get_915e3
set_option maxRecDepth 20000 in
theorem ggX1_countMet_X1_wouldMeet : GoodIn wsX1_countMet wsX1_wouldMeet := goodIn_r _ [29, 30, 31, 32, 33, 28, 34, 35, 36, 37, 44, 45, 46, 47, 48, 49, 50, 51, 52] (by decide +kernel) (by decide +kernel)
set_option maxRecDepth 20000 in
theorem gX1_countMet_X1_wouldMeet : GoodIn wsX1_countMet (va_wsS RX1 108 yX1_wouldMeet wsX1_wouldMeet) := goodIn_app (goodIn_of _ (by decide +kernel)) ggX1_countMet_X1_wouldMeet
theorem dX1_countMet_0 : decode cX1_countMet 0 = .ok (.iconst 0, 1) := by decide +kernel
theorem dX1_countMet_1 : decode cX1_countMet 1 = .ok (.istore_n 3, 1) := by decide +kernel
theorem dX1_countMet_2 : decode cX1_countMet 2 = .ok (.iconst 0, 1) := by decide +kernel
theorem dX1_countMet_3 : decode cX1_countMet 3 = .ok (.istore 4, 2) := by decide +kernel
theorem dX1_countMet_5 : decode cX1_countMet 5 = .ok (.iload 4, 2) := by decide +kernel
theorem dX1_countMet_7 : decode cX1_countMet 7 = .ok (.aload_n 0, 1) := by decide +kernel
theorem dX1_countMet_8 : decode cX1_countMet 8 = .ok (.getfield 10, 3) := by decide +kernel
theorem dX1_countMet_11 : decode cX1_countMet 11 = .ok (.invokevirtual 27, 3) := by decide +kernel
theorem dX1_countMet_14 : decode cX1_countMet 14 = .ok (.if_icmp .ge 42, 3) := by decide +kernel
theorem dX1_countMet_17 : decode cX1_countMet 17 = .ok (.aload_n 0, 1) := by decide +kernel
theorem dX1_countMet_18 : decode cX1_countMet 18 = .ok (.getfield 10, 3) := by decide +kernel
theorem dX1_countMet_21 : decode cX1_countMet 21 = .ok (.iload 4, 2) := by decide +kernel
theorem dX1_countMet_23 : decode cX1_countMet 23 = .ok (.invokevirtual 93, 3) := by decide +kernel
theorem dX1_countMet_26 : decode cX1_countMet 26 = .ok (.checkcast 38, 3) := by decide +kernel
theorem dX1_countMet_29 : decode cX1_countMet 29 = .ok (.astore 5, 2) := by decide +kernel
theorem dX1_countMet_31 : decode cX1_countMet 31 = .ok (.aload 5, 2) := by decide +kernel
theorem dX1_countMet_33 : decode cX1_countMet 33 = .ok (.aload_n 1, 1) := by decide +kernel
theorem dX1_countMet_34 : decode cX1_countMet 34 = .ok (.if_acmp .eq 16, 3) := by decide +kernel
theorem dX1_countMet_37 : decode cX1_countMet 37 = .ok (.aload_n 1, 1) := by decide +kernel
theorem dX1_countMet_38 : decode cX1_countMet 38 = .ok (.iload_n 2, 1) := by decide +kernel
theorem dX1_countMet_39 : decode cX1_countMet 39 = .ok (.aload 5, 2) := by decide +kernel
theorem dX1_countMet_41 : decode cX1_countMet 41 = .ok (.invokestatic 108, 3) := by decide +kernel
theorem dX1_countMet_44 : decode cX1_countMet 44 = .ok (.ifCond .eq 6, 3) := by decide +kernel
theorem dX1_countMet_47 : decode cX1_countMet 47 = .ok (.iinc 3 1, 3) := by decide +kernel
theorem dX1_countMet_50 : decode cX1_countMet 50 = .ok (.iinc 4 1, 3) := by decide +kernel
theorem dX1_countMet_53 : decode cX1_countMet 53 = .ok (.goto (-48), 3) := by decide +kernel
theorem dX1_countMet_56 : decode cX1_countMet 56 = .ok (.iload_n 3, 1) := by decide +kernel
theorem dX1_countMet_57 : decode cX1_countMet 57 = .ok (.ireturn, 1) := by decide +kernel
set_option maxRecDepth 20000 in
theorem ggX1_wouldMeet_X1_greatestDivisor : GoodIn wsX1_wouldMeet wsX1_greatestDivisor := goodIn_r _ [6, 7, 8, 5, 9] (by decide +kernel) (by decide +kernel)
set_option maxRecDepth 20000 in
theorem gX1_wouldMeet_X1_greatestDivisor : GoodIn wsX1_wouldMeet (va_wsS RX1 104 yX1_greatestDivisor wsX1_greatestDivisor) := goodIn_app (goodIn_of _ (by decide +kernel)) ggX1_wouldMeet_X1_greatestDivisor
set_option maxRecDepth 20000 in
theorem ggX1_wouldMeet_X1_divides : GoodIn wsX1_wouldMeet wsX1_divides := goodIn_r _ [9] (by decide +kernel) (by decide +kernel)
set_option maxRecDepth 20000 in
theorem gX1_wouldMeet_X1_divides : GoodIn wsX1_wouldMeet (va_wsS RX1 202 yX1_divides wsX1_divides) := goodIn_app (goodIn_of _ (by decide +kernel)) ggX1_wouldMeet_X1_divides
theorem dX1_wouldMeet_0 : decode cX1_wouldMeet 0 = .ok (.aload_n 0, 1) := by decide +kernel
theorem dX1_wouldMeet_1 : decode cX1_wouldMeet 1 = .ok (.getfield 51, 3) := by decide +kernel
theorem dX1_wouldMeet_4 : decode cX1_wouldMeet 4 = .ok (.aload_n 2, 1) := by decide +kernel
theorem dX1_wouldMeet_5 : decode cX1_wouldMeet 5 = .ok (.getfield 51, 3) := by decide +kernel
theorem dX1_wouldMeet_8 : decode cX1_wouldMeet 8 = .ok (.invokestatic 104, 3) := by decide +kernel
theorem dX1_wouldMeet_11 : decode cX1_wouldMeet 11 = .ok (.iload_n 1, 1) := by decide +kernel
theorem dX1_wouldMeet_12 : decode cX1_wouldMeet 12 = .ok (.aload_n 2, 1) := by decide +kernel
theorem dX1_wouldMeet_13 : decode cX1_wouldMeet 13 = .ok (.getfield 54, 3) := by decide +kernel
theorem dX1_wouldMeet_16 : decode cX1_wouldMeet 16 = .ok (.isub, 1) := by decide +kernel
theorem dX1_wouldMeet_17 : decode cX1_wouldMeet 17 = .ok (.i2l, 1) := by decide +kernel
theorem dX1_wouldMeet_18 : decode cX1_wouldMeet 18 = .ok (.invokestatic 202, 3) := by decide +kernel
theorem dX1_wouldMeet_21 : decode cX1_wouldMeet 21 = .ok (.ireturn, 1) := by decide +kernel
theorem dX1_divides_0 : decode cX1_divides 0 = .ok (.iload_n 0, 1) := by decide +kernel
theorem dX1_divides_1 : decode cX1_divides 1 = .ok (.ifCond .le 16, 3) := by decide +kernel
theorem dX1_divides_4 : decode cX1_divides 4 = .ok (.lload_n 1, 1) := by decide +kernel
theorem dX1_divides_5 : decode cX1_divides 5 = .ok (.iload_n 0, 1) := by decide +kernel
theorem dX1_divides_6 : decode cX1_divides 6 = .ok (.i2l, 1) := by decide +kernel
theorem dX1_divides_7 : decode cX1_divides 7 = .ok (.lrem, 1) := by decide +kernel
theorem dX1_divides_8 : decode cX1_divides 8 = .ok (.lconst 0, 1) := by decide +kernel
theorem dX1_divides_9 : decode cX1_divides 9 = .ok (.lcmp, 1) := by decide +kernel
theorem dX1_divides_10 : decode cX1_divides 10 = .ok (.ifCond .ne 7, 3) := by decide +kernel
theorem dX1_divides_13 : decode cX1_divides 13 = .ok (.iconst 1, 1) := by decide +kernel
theorem dX1_divides_14 : decode cX1_divides 14 = .ok (.goto 4, 3) := by decide +kernel
theorem dX1_divides_17 : decode cX1_divides 17 = .ok (.iconst 0, 1) := by decide +kernel
theorem dX1_divides_18 : decode cX1_divides 18 = .ok (.ireturn, 1) := by decide +kernel
set_option maxRecDepth 20000 in
theorem ggX1_greatestDivisor_X1_divides : GoodIn wsX1_greatestDivisor wsX1_divides := goodIn_r _ [4] (by decide +kernel) (by decide +kernel)
set_option maxRecDepth 20000 in
theorem gX1_greatestDivisor_X1_divides : GoodIn wsX1_greatestDivisor (va_wsS RX1 202 yX1_divides wsX1_divides) := goodIn_app (goodIn_of _ (by decide +kernel)) ggX1_greatestDivisor_X1_divides
theorem dX1_greatestDivisor_0 : decode cX1_greatestDivisor 0 = .ok (.iload_n 0, 1) := by decide +kernel
theorem dX1_greatestDivisor_1 : decode cX1_greatestDivisor 1 = .ok (.istore_n 2, 1) := by decide +kernel
theorem dX1_greatestDivisor_2 : decode cX1_greatestDivisor 2 = .ok (.iload_n 2, 1) := by decide +kernel
theorem dX1_greatestDivisor_3 : decode cX1_greatestDivisor 3 = .ok (.iconst 1, 1) := by decide +kernel
theorem dX1_greatestDivisor_4 : decode cX1_greatestDivisor 4 = .ok (.if_icmp .le 29, 3) := by decide +kernel
theorem dX1_greatestDivisor_7 : decode cX1_greatestDivisor 7 = .ok (.iload_n 2, 1) := by decide +kernel
theorem dX1_greatestDivisor_8 : decode cX1_greatestDivisor 8 = .ok (.iload_n 0, 1) := by decide +kernel
theorem dX1_greatestDivisor_9 : decode cX1_greatestDivisor 9 = .ok (.i2l, 1) := by decide +kernel
theorem dX1_greatestDivisor_10 : decode cX1_greatestDivisor 10 = .ok (.invokestatic 202, 3) := by decide +kernel
theorem dX1_greatestDivisor_13 : decode cX1_greatestDivisor 13 = .ok (.ifCond .eq 14, 3) := by decide +kernel
theorem dX1_greatestDivisor_16 : decode cX1_greatestDivisor 16 = .ok (.iload_n 2, 1) := by decide +kernel
theorem dX1_greatestDivisor_17 : decode cX1_greatestDivisor 17 = .ok (.iload_n 1, 1) := by decide +kernel
theorem dX1_greatestDivisor_18 : decode cX1_greatestDivisor 18 = .ok (.i2l, 1) := by decide +kernel
theorem dX1_greatestDivisor_19 : decode cX1_greatestDivisor 19 = .ok (.invokestatic 202, 3) := by decide +kernel
theorem dX1_greatestDivisor_22 : decode cX1_greatestDivisor 22 = .ok (.ifCond .eq 5, 3) := by decide +kernel
theorem dX1_greatestDivisor_25 : decode cX1_greatestDivisor 25 = .ok (.iload_n 2, 1) := by decide +kernel
theorem dX1_greatestDivisor_26 : decode cX1_greatestDivisor 26 = .ok (.ireturn, 1) := by decide +kernel
theorem dX1_greatestDivisor_27 : decode cX1_greatestDivisor 27 = .ok (.iinc 2 (-1), 3) := by decide +kernel
theorem dX1_greatestDivisor_30 : decode cX1_greatestDivisor 30 = .ok (.goto (-28), 3) := by decide +kernel
theorem dX1_greatestDivisor_33 : decode cX1_greatestDivisor 33 = .ok (.iconst 1, 1) := by decide +kernel
theorem dX1_greatestDivisor_34 : decode cX1_greatestDivisor 34 = .ok (.ireturn, 1) := by decide +kernel
set_option maxRecDepth 20000 in
theorem ggX1_smallestMultiple_X1_divides : GoodIn wsX1_smallestMultiple wsX1_divides := goodIn_r _ [4] (by decide +kernel) (by decide +kernel)
set_option maxRecDepth 20000 in
theorem gX1_smallestMultiple_X1_divides : GoodIn wsX1_smallestMultiple (va_wsS RX1 202 yX1_divides wsX1_divides) := goodIn_app (goodIn_of _ (by decide +kernel)) ggX1_smallestMultiple_X1_divides
theorem dX1_smallestMultiple_0 : decode cX1_smallestMultiple 0 = .ok (.iconst 1, 1) := by decide +kernel
theorem dX1_smallestMultiple_1 : decode cX1_smallestMultiple 1 = .ok (.istore_n 3, 1) := by decide +kernel
theorem dX1_smallestMultiple_2 : decode cX1_smallestMultiple 2 = .ok (.iload_n 3, 1) := by decide +kernel
theorem dX1_smallestMultiple_3 : decode cX1_smallestMultiple 3 = .ok (.iload_n 2, 1) := by decide +kernel
theorem dX1_smallestMultiple_4 : decode cX1_smallestMultiple 4 = .ok (.if_icmp .ge 25, 3) := by decide +kernel
theorem dX1_smallestMultiple_7 : decode cX1_smallestMultiple 7 = .ok (.iload_n 2, 1) := by decide +kernel
theorem dX1_smallestMultiple_8 : decode cX1_smallestMultiple 8 = .ok (.lload_n 0, 1) := by decide +kernel
theorem dX1_smallestMultiple_9 : decode cX1_smallestMultiple 9 = .ok (.iload_n 3, 1) := by decide +kernel
theorem dX1_smallestMultiple_10 : decode cX1_smallestMultiple 10 = .ok (.i2l, 1) := by decide +kernel
theorem dX1_smallestMultiple_11 : decode cX1_smallestMultiple 11 = .ok (.lmul, 1) := by decide +kernel
theorem dX1_smallestMultiple_12 : decode cX1_smallestMultiple 12 = .ok (.invokestatic 202, 3) := by decide +kernel
theorem dX1_smallestMultiple_15 : decode cX1_smallestMultiple 15 = .ok (.ifCond .eq 8, 3) := by decide +kernel
theorem dX1_smallestMultiple_18 : decode cX1_smallestMultiple 18 = .ok (.lload_n 0, 1) := by decide +kernel
theorem dX1_smallestMultiple_19 : decode cX1_smallestMultiple 19 = .ok (.iload_n 3, 1) := by decide +kernel
theorem dX1_smallestMultiple_20 : decode cX1_smallestMultiple 20 = .ok (.i2l, 1) := by decide +kernel
theorem dX1_smallestMultiple_21 : decode cX1_smallestMultiple 21 = .ok (.lmul, 1) := by decide +kernel
theorem dX1_smallestMultiple_22 : decode cX1_smallestMultiple 22 = .ok (.lreturn, 1) := by decide +kernel
theorem dX1_smallestMultiple_23 : decode cX1_smallestMultiple 23 = .ok (.iinc 3 1, 3) := by decide +kernel
theorem dX1_smallestMultiple_26 : decode cX1_smallestMultiple 26 = .ok (.goto (-24), 3) := by decide +kernel
theorem dX1_smallestMultiple_29 : decode cX1_smallestMultiple 29 = .ok (.lload_n 0, 1) := by decide +kernel
theorem dX1_smallestMultiple_30 : decode cX1_smallestMultiple 30 = .ok (.iload_n 2, 1) := by decide +kernel
theorem dX1_smallestMultiple_31 : decode cX1_smallestMultiple 31 = .ok (.i2l, 1) := by decide +kernel
theorem dX1_smallestMultiple_32 : decode cX1_smallestMultiple 32 = .ok (.lmul, 1) := by decide +kernel
theorem dX1_smallestMultiple_33 : decode cX1_smallestMultiple 33 = .ok (.lreturn, 1) := by decide +kernel
theorem dX1_joined_0 : decode cX1_joined 0 = .ok (.lload_n 0, 1) := by decide +kernel
theorem dX1_joined_1 : decode cX1_joined 1 = .ok (.ldc2_w 206, 3) := by decide +kernel
theorem dX1_joined_4 : decode cX1_joined 4 = .ok (.lmul, 1) := by decide +kernel
theorem dX1_joined_5 : decode cX1_joined 5 = .ok (.lload_n 2, 1) := by decide +kernel
theorem dX1_joined_6 : decode cX1_joined 6 = .ok (.ladd, 1) := by decide +kernel
theorem dX1_joined_7 : decode cX1_joined 7 = .ok (.lreturn, 1) := by decide +kernel
set_option maxRecDepth 20000 in
theorem ggX1_joinedWithLamp_X1_phaseOf : GoodIn wsX1_joinedWithLamp wsX1_phaseOf := goodIn_ca (goodIn_r _ [6, 7, 8, 9, 10, 5, 11, 12, 13, 1, 14, 15, 16, 17, 18, 19, 20, 21, 22, 23, 24, 25, 26, 27, 28, 29, 30, 31, 32, 33, 34, 35, 36, 37, 38, 39, 40, 41, 42, 43, 44, 120, 121, 122, 123, 124, 125, 126, 127, 128, 129, 130, 131, 132, 133, 134] (by decide +kernel) (by decide +kernel)) (goodIn_sub (fun _ h => List.mem_cons_of_mem _ (List.mem_append_right _ h)) (by decide +kernel))
set_option maxRecDepth 20000 in
theorem gX1_joinedWithLamp_X1_phaseOf : GoodIn wsX1_joinedWithLamp (wsV RX1 208 RX1 yX1_phaseOf wsX1_phaseOf) := goodIn_app (goodIn_of _ (by decide +kernel)) ggX1_joinedWithLamp_X1_phaseOf
set_option maxRecDepth 20000 in
theorem ggX1_joinedWithLamp_X1_joined : GoodIn wsX1_joinedWithLamp wsX1_joined := goodIn_r _ [47, 48] (by decide +kernel) (by decide +kernel)
set_option maxRecDepth 20000 in
theorem gX1_joinedWithLamp_X1_joined : GoodIn wsX1_joinedWithLamp (va_wsS RX1 139 yX1_joined wsX1_joined) := goodIn_app (goodIn_of _ (by decide +kernel)) ggX1_joinedWithLamp_X1_joined
set_option maxRecDepth 20000 in
theorem ggX1_joinedWithLamp_X1_isDue : GoodIn wsX1_joinedWithLamp wsX1_isDue := goodIn_ca (goodIn_r _ [52, 7, 8, 9, 10, 5, 11, 12, 13, 1, 14, 15, 16, 17, 18, 19, 20, 21, 22, 23, 24, 25, 26, 27, 28, 29, 30, 31, 32, 33, 34, 35, 36, 37, 53, 54, 55, 41, 56, 57, 58, 39, 40, 42, 43, 44, 120, 121, 122, 123, 124, 125, 126, 127, 128, 129, 130, 131, 132, 133, 134] (by decide +kernel) (by decide +kernel)) (goodIn_sub (fun _ h => List.mem_cons_of_mem _ (List.mem_append_right _ h)) (by decide +kernel))
set_option maxRecDepth 20000 in
theorem gX1_joinedWithLamp_X1_isDue : GoodIn wsX1_joinedWithLamp (wsV RX1 211 RX1 yX1_isDue wsX1_isDue) := goodIn_app (goodIn_of _ (by decide +kernel)) ggX1_joinedWithLamp_X1_isDue
set_option maxRecDepth 20000 in
theorem ggX1_joinedWithLamp_X1_shines : GoodIn wsX1_joinedWithLamp wsX1_shines := goodIn_ca (goodIn_r _ [62, 7, 63, 8, 9, 10, 5, 11, 12, 13, 1, 14, 15, 16, 17, 18, 19, 20, 21, 22, 23, 24, 25, 26, 27, 28, 29, 30, 31, 32, 33, 34, 35, 36, 37, 64, 65, 66, 67, 68, 69, 53, 54, 55, 41, 56, 57, 58, 39, 40, 42, 43, 44, 120, 121, 122, 126, 127, 128, 129, 130, 131, 132, 133, 134, 123, 124, 125] (by decide +kernel) (by decide +kernel)) (goodIn_sub (fun _ h => List.mem_cons_of_mem _ (List.mem_append_right _ h)) (by decide +kernel))
set_option maxRecDepth 20000 in
theorem gX1_joinedWithLamp_X1_shines : GoodIn wsX1_joinedWithLamp (wsV RX1 214 RX1 yX1_shines wsX1_shines) := goodIn_app (goodIn_of _ (by decide +kernel)) ggX1_joinedWithLamp_X1_shines
set_option maxRecDepth 20000 in
theorem ggX1_joinedWithLamp_X1_colourOf : GoodIn wsX1_joinedWithLamp wsX1_colourOf := goodIn_ca (goodIn_r _ [73, 74, 8, 9, 10, 5, 11, 12, 13, 1, 14, 15, 16, 17, 18, 19, 20, 21, 22, 23, 24, 25, 26, 27, 28, 29, 30, 31, 32, 33, 34, 35, 36, 37, 126, 127, 128, 129, 130, 131, 132, 133, 134, 120, 121, 122, 123, 124, 125] (by decide +kernel) (by decide +kernel)) (goodIn_sub (fun _ h => List.mem_cons_of_mem _ (List.mem_append_right _ h)) (by decide +kernel))
set_option maxRecDepth 20000 in
theorem gX1_joinedWithLamp_X1_colourOf : GoodIn wsX1_joinedWithLamp (wsV RX1 217 RX1 yX1_colourOf wsX1_colourOf) := goodIn_app (goodIn_of _ (by decide +kernel)) ggX1_joinedWithLamp_X1_colourOf
set_option maxRecDepth 20000 in
theorem ggX1_joinedWithLamp_X1_shone : GoodIn wsX1_joinedWithLamp wsX1_shone := goodIn_ca (goodIn_r _ [78, 79, 8, 9, 10, 5, 11, 12, 13, 1, 14, 15, 16, 17, 18, 19, 20, 21, 22, 23, 24, 25, 26, 27, 28, 29, 30, 31, 32, 33, 34, 35, 36, 37, 126, 127, 128, 129, 130, 131, 132, 133, 134, 120, 121, 122, 123, 124, 125] (by decide +kernel) (by decide +kernel)) (goodIn_sub (fun _ h => List.mem_cons_of_mem _ (List.mem_append_right _ h)) (by decide +kernel))
set_option maxRecDepth 20000 in
theorem gX1_joinedWithLamp_X1_shone : GoodIn wsX1_joinedWithLamp (wsV RX1 220 RX1 yX1_shone wsX1_shone) := goodIn_app (goodIn_of _ (by decide +kernel)) ggX1_joinedWithLamp_X1_shone
set_option maxRecDepth 20000 in
theorem ggX1_joinedWithLamp_X1_stayedDark : GoodIn wsX1_joinedWithLamp wsX1_stayedDark := goodIn_ca (goodIn_r _ [83, 84, 8, 9, 10, 5, 11, 12, 13, 1, 14, 15, 16, 17, 18, 19, 20, 21, 22, 23, 24, 25, 26, 27, 28, 29, 30, 31, 32, 33, 34, 35, 36, 37, 126, 127, 128, 129, 130, 131, 132, 133, 134, 120, 121, 122, 123, 124, 125] (by decide +kernel) (by decide +kernel)) (goodIn_sub (fun _ h => List.mem_cons_of_mem _ (List.mem_append_right _ h)) (by decide +kernel))
set_option maxRecDepth 20000 in
theorem gX1_joinedWithLamp_X1_stayedDark : GoodIn wsX1_joinedWithLamp (wsV RX1 223 RX1 yX1_stayedDark wsX1_stayedDark) := goodIn_app (goodIn_of _ (by decide +kernel)) ggX1_joinedWithLamp_X1_stayedDark
set_option maxRecDepth 20000 in
theorem ggX1_joinedWithLamp_X1_meets : GoodIn wsX1_joinedWithLamp wsX1_meets := goodIn_ca (goodIn_r _ [88, 89, 8, 9, 10, 5, 11, 12, 13, 1, 14, 15, 16, 17, 18, 19, 20, 21, 22, 23, 24, 25, 26, 27, 28, 29, 30, 31, 32, 33, 34, 35, 36, 37, 90, 91, 92, 93, 94, 95, 96, 97, 98, 99, 100, 101, 102, 103, 126, 127, 128, 129, 130, 131, 132, 133, 134, 120, 121, 122, 123, 124, 125] (by decide +kernel) (by decide +kernel)) (goodIn_sub (fun _ h => List.mem_cons_of_mem _ (List.mem_append_right _ h)) (by decide +kernel))
set_option maxRecDepth 20000 in
theorem gX1_joinedWithLamp_X1_meets : GoodIn wsX1_joinedWithLamp (wsV RX1 226 RX1 yX1_meets wsX1_meets) := goodIn_app (goodIn_of _ (by decide +kernel)) ggX1_joinedWithLamp_X1_meets
set_option maxRecDepth 20000 in
theorem ggX1_joinedWithLamp_X1_bestShift : GoodIn wsX1_joinedWithLamp wsX1_bestShift := goodIn_ca (goodIn_r _ [107, 97, 8, 9, 10, 5, 11, 12, 13, 1, 14, 15, 16, 17, 18, 19, 20, 21, 22, 23, 24, 25, 26, 27, 28, 29, 30, 31, 32, 33, 34, 35, 36, 37, 90, 91, 92, 93, 94, 95, 96, 89, 98, 99, 100, 101, 102, 103, 126, 127, 128, 129, 130, 131, 132, 133, 134, 120, 121, 122, 123, 124, 125] (by decide +kernel) (by decide +kernel)) (goodIn_sub (fun _ h => List.mem_cons_of_mem _ (List.mem_append_right _ h)) (by decide +kernel))
set_option maxRecDepth 20000 in
theorem gX1_joinedWithLamp_X1_bestShift : GoodIn wsX1_joinedWithLamp (wsV RX1 229 RX1 yX1_bestShift wsX1_bestShift) := goodIn_app (goodIn_of _ (by decide +kernel)) ggX1_joinedWithLamp_X1_bestShift
set_option maxRecDepth 20000 in
theorem ggX1_joinedWithLamp_Jx4a65c_size_8abf5 : GoodIn wsX1_joinedWithLamp wsJx4a65c_size_8abf5 := goodIn_r _ [19, 20, 123, 124, 125] (by decide +kernel) (by decide +kernel)
set_option maxRecDepth 20000 in
theorem gX1_joinedWithLamp_Jx4a65c_size_8abf5 : GoodIn wsX1_joinedWithLamp (wsV RX1 27 RJx4a65c yJx4a65c_size_8abf5 wsJx4a65c_size_8abf5) := goodIn_app (goodIn_of _ (by decide +kernel)) ggX1_joinedWithLamp_Jx4a65c_size_8abf5
set_option maxRecDepth 20000 in
theorem ggX1_joinedWithLamp_X1_beatsUntilMeet : GoodIn wsX1_joinedWithLamp wsX1_beatsUntilMeet := goodIn_ca (goodIn_r _ [111, 7, 97, 8, 9, 10, 5, 11, 12, 13, 1, 14, 15, 16, 17, 18, 19, 20, 21, 22, 23, 24, 25, 26, 27, 28, 29, 30, 31, 32, 33, 34, 35, 36, 37, 112, 113, 114, 41, 115, 43, 58, 39, 40, 42, 44, 116, 117, 118, 119, 120, 121, 122, 126, 127, 128, 129, 130, 131, 132, 133, 134, 123, 124, 125] (by decide +kernel) (by decide +kernel)) (goodIn_sub (fun _ h => List.mem_cons_of_mem _ (List.mem_append_right _ h)) (by decide +kernel))
set_option maxRecDepth 20000 in
theorem gX1_joinedWithLamp_X1_beatsUntilMeet : GoodIn wsX1_joinedWithLamp (wsV RX1 232 RX1 yX1_beatsUntilMeet wsX1_beatsUntilMeet) := goodIn_app (goodIn_of _ (by decide +kernel)) ggX1_joinedWithLamp_X1_beatsUntilMeet
theorem dX1_joinedWithLamp_0 : decode cX1_joinedWithLamp 0 = .ok (.lload_n 1, 1) := by decide +kernel
theorem dX1_joinedWithLamp_1 : decode cX1_joinedWithLamp 1 = .ok (.lstore 4, 2) := by decide +kernel
theorem dX1_joinedWithLamp_3 : decode cX1_joinedWithLamp 3 = .ok (.lload 4, 2) := by decide +kernel
theorem dX1_joinedWithLamp_5 : decode cX1_joinedWithLamp 5 = .ok (.aload_n 0, 1) := by decide +kernel
theorem dX1_joinedWithLamp_6 : decode cX1_joinedWithLamp 6 = .ok (.iload_n 3, 1) := by decide +kernel
theorem dX1_joinedWithLamp_7 : decode cX1_joinedWithLamp 7 = .ok (.invokevirtual 208, 3) := by decide +kernel
theorem dX1_joinedWithLamp_10 : decode cX1_joinedWithLamp 10 = .ok (.i2l, 1) := by decide +kernel
theorem dX1_joinedWithLamp_11 : decode cX1_joinedWithLamp 11 = .ok (.invokestatic 139, 3) := by decide +kernel
theorem dX1_joinedWithLamp_14 : decode cX1_joinedWithLamp 14 = .ok (.lstore 4, 2) := by decide +kernel
theorem dX1_joinedWithLamp_16 : decode cX1_joinedWithLamp 16 = .ok (.lload 4, 2) := by decide +kernel
theorem dX1_joinedWithLamp_18 : decode cX1_joinedWithLamp 18 = .ok (.aload_n 0, 1) := by decide +kernel
theorem dX1_joinedWithLamp_19 : decode cX1_joinedWithLamp 19 = .ok (.iload_n 3, 1) := by decide +kernel
theorem dX1_joinedWithLamp_20 : decode cX1_joinedWithLamp 20 = .ok (.invokevirtual 211, 3) := by decide +kernel
theorem dX1_joinedWithLamp_23 : decode cX1_joinedWithLamp 23 = .ok (.ifCond .eq 7, 3) := by decide +kernel
theorem dX1_joinedWithLamp_26 : decode cX1_joinedWithLamp 26 = .ok (.lconst 1, 1) := by decide +kernel
theorem dX1_joinedWithLamp_27 : decode cX1_joinedWithLamp 27 = .ok (.goto 4, 3) := by decide +kernel
theorem dX1_joinedWithLamp_30 : decode cX1_joinedWithLamp 30 = .ok (.lconst 0, 1) := by decide +kernel
theorem dX1_joinedWithLamp_31 : decode cX1_joinedWithLamp 31 = .ok (.invokestatic 139, 3) := by decide +kernel
theorem dX1_joinedWithLamp_34 : decode cX1_joinedWithLamp 34 = .ok (.lstore 4, 2) := by decide +kernel
theorem dX1_joinedWithLamp_36 : decode cX1_joinedWithLamp 36 = .ok (.lload 4, 2) := by decide +kernel
theorem dX1_joinedWithLamp_38 : decode cX1_joinedWithLamp 38 = .ok (.aload_n 0, 1) := by decide +kernel
theorem dX1_joinedWithLamp_39 : decode cX1_joinedWithLamp 39 = .ok (.iload_n 3, 1) := by decide +kernel
theorem dX1_joinedWithLamp_40 : decode cX1_joinedWithLamp 40 = .ok (.invokevirtual 214, 3) := by decide +kernel
theorem dX1_joinedWithLamp_43 : decode cX1_joinedWithLamp 43 = .ok (.ifCond .eq 7, 3) := by decide +kernel
theorem dX1_joinedWithLamp_46 : decode cX1_joinedWithLamp 46 = .ok (.lconst 1, 1) := by decide +kernel
theorem dX1_joinedWithLamp_47 : decode cX1_joinedWithLamp 47 = .ok (.goto 4, 3) := by decide +kernel
theorem dX1_joinedWithLamp_50 : decode cX1_joinedWithLamp 50 = .ok (.lconst 0, 1) := by decide +kernel
theorem dX1_joinedWithLamp_51 : decode cX1_joinedWithLamp 51 = .ok (.invokestatic 139, 3) := by decide +kernel
theorem dX1_joinedWithLamp_54 : decode cX1_joinedWithLamp 54 = .ok (.lstore 4, 2) := by decide +kernel
theorem dX1_joinedWithLamp_56 : decode cX1_joinedWithLamp 56 = .ok (.lload 4, 2) := by decide +kernel
theorem dX1_joinedWithLamp_58 : decode cX1_joinedWithLamp 58 = .ok (.aload_n 0, 1) := by decide +kernel
theorem dX1_joinedWithLamp_59 : decode cX1_joinedWithLamp 59 = .ok (.iload_n 3, 1) := by decide +kernel
theorem dX1_joinedWithLamp_60 : decode cX1_joinedWithLamp 60 = .ok (.invokevirtual 217, 3) := by decide +kernel
theorem dX1_joinedWithLamp_63 : decode cX1_joinedWithLamp 63 = .ok (.i2l, 1) := by decide +kernel
theorem dX1_joinedWithLamp_64 : decode cX1_joinedWithLamp 64 = .ok (.invokestatic 139, 3) := by decide +kernel
theorem dX1_joinedWithLamp_67 : decode cX1_joinedWithLamp 67 = .ok (.lstore 4, 2) := by decide +kernel
theorem dX1_joinedWithLamp_69 : decode cX1_joinedWithLamp 69 = .ok (.lload 4, 2) := by decide +kernel
theorem dX1_joinedWithLamp_71 : decode cX1_joinedWithLamp 71 = .ok (.aload_n 0, 1) := by decide +kernel
theorem dX1_joinedWithLamp_72 : decode cX1_joinedWithLamp 72 = .ok (.iload_n 3, 1) := by decide +kernel
theorem dX1_joinedWithLamp_73 : decode cX1_joinedWithLamp 73 = .ok (.invokevirtual 220, 3) := by decide +kernel
theorem dX1_joinedWithLamp_76 : decode cX1_joinedWithLamp 76 = .ok (.i2l, 1) := by decide +kernel
theorem dX1_joinedWithLamp_77 : decode cX1_joinedWithLamp 77 = .ok (.invokestatic 139, 3) := by decide +kernel
theorem dX1_joinedWithLamp_80 : decode cX1_joinedWithLamp 80 = .ok (.lstore 4, 2) := by decide +kernel
theorem dX1_joinedWithLamp_82 : decode cX1_joinedWithLamp 82 = .ok (.lload 4, 2) := by decide +kernel
theorem dX1_joinedWithLamp_84 : decode cX1_joinedWithLamp 84 = .ok (.aload_n 0, 1) := by decide +kernel
theorem dX1_joinedWithLamp_85 : decode cX1_joinedWithLamp 85 = .ok (.iload_n 3, 1) := by decide +kernel
theorem dX1_joinedWithLamp_86 : decode cX1_joinedWithLamp 86 = .ok (.invokevirtual 223, 3) := by decide +kernel
theorem dX1_joinedWithLamp_89 : decode cX1_joinedWithLamp 89 = .ok (.i2l, 1) := by decide +kernel
theorem dX1_joinedWithLamp_90 : decode cX1_joinedWithLamp 90 = .ok (.invokestatic 139, 3) := by decide +kernel
theorem dX1_joinedWithLamp_93 : decode cX1_joinedWithLamp 93 = .ok (.lstore 4, 2) := by decide +kernel
theorem dX1_joinedWithLamp_95 : decode cX1_joinedWithLamp 95 = .ok (.lload 4, 2) := by decide +kernel
theorem dX1_joinedWithLamp_97 : decode cX1_joinedWithLamp 97 = .ok (.aload_n 0, 1) := by decide +kernel
theorem dX1_joinedWithLamp_98 : decode cX1_joinedWithLamp 98 = .ok (.iload_n 3, 1) := by decide +kernel
theorem dX1_joinedWithLamp_99 : decode cX1_joinedWithLamp 99 = .ok (.invokevirtual 226, 3) := by decide +kernel
theorem dX1_joinedWithLamp_102 : decode cX1_joinedWithLamp 102 = .ok (.i2l, 1) := by decide +kernel
theorem dX1_joinedWithLamp_103 : decode cX1_joinedWithLamp 103 = .ok (.invokestatic 139, 3) := by decide +kernel
theorem dX1_joinedWithLamp_106 : decode cX1_joinedWithLamp 106 = .ok (.lstore 4, 2) := by decide +kernel
theorem dX1_joinedWithLamp_108 : decode cX1_joinedWithLamp 108 = .ok (.lload 4, 2) := by decide +kernel
theorem dX1_joinedWithLamp_110 : decode cX1_joinedWithLamp 110 = .ok (.aload_n 0, 1) := by decide +kernel
theorem dX1_joinedWithLamp_111 : decode cX1_joinedWithLamp 111 = .ok (.iload_n 3, 1) := by decide +kernel
theorem dX1_joinedWithLamp_112 : decode cX1_joinedWithLamp 112 = .ok (.invokevirtual 229, 3) := by decide +kernel
theorem dX1_joinedWithLamp_115 : decode cX1_joinedWithLamp 115 = .ok (.i2l, 1) := by decide +kernel
theorem dX1_joinedWithLamp_116 : decode cX1_joinedWithLamp 116 = .ok (.invokestatic 139, 3) := by decide +kernel
theorem dX1_joinedWithLamp_119 : decode cX1_joinedWithLamp 119 = .ok (.lstore 4, 2) := by decide +kernel
theorem dX1_joinedWithLamp_121 : decode cX1_joinedWithLamp 121 = .ok (.iconst 0, 1) := by decide +kernel
theorem dX1_joinedWithLamp_122 : decode cX1_joinedWithLamp 122 = .ok (.istore 6, 2) := by decide +kernel
theorem dX1_joinedWithLamp_124 : decode cX1_joinedWithLamp 124 = .ok (.iload 6, 2) := by decide +kernel
theorem dX1_joinedWithLamp_126 : decode cX1_joinedWithLamp 126 = .ok (.aload_n 0, 1) := by decide +kernel
theorem dX1_joinedWithLamp_127 : decode cX1_joinedWithLamp 127 = .ok (.getfield 10, 3) := by decide +kernel
theorem dX1_joinedWithLamp_130 : decode cX1_joinedWithLamp 130 = .ok (.invokevirtual 27, 3) := by decide +kernel
theorem dX1_joinedWithLamp_133 : decode cX1_joinedWithLamp 133 = .ok (.if_icmp .ge 24, 3) := by decide +kernel
theorem dX1_joinedWithLamp_136 : decode cX1_joinedWithLamp 136 = .ok (.lload 4, 2) := by decide +kernel
theorem dX1_joinedWithLamp_138 : decode cX1_joinedWithLamp 138 = .ok (.aload_n 0, 1) := by decide +kernel
theorem dX1_joinedWithLamp_139 : decode cX1_joinedWithLamp 139 = .ok (.iload_n 3, 1) := by decide +kernel
theorem dX1_joinedWithLamp_140 : decode cX1_joinedWithLamp 140 = .ok (.iload 6, 2) := by decide +kernel
theorem dX1_joinedWithLamp_142 : decode cX1_joinedWithLamp 142 = .ok (.invokevirtual 232, 3) := by decide +kernel
theorem dX1_joinedWithLamp_145 : decode cX1_joinedWithLamp 145 = .ok (.i2l, 1) := by decide +kernel
theorem dX1_joinedWithLamp_146 : decode cX1_joinedWithLamp 146 = .ok (.invokestatic 139, 3) := by decide +kernel
theorem dX1_joinedWithLamp_149 : decode cX1_joinedWithLamp 149 = .ok (.lstore 4, 2) := by decide +kernel
theorem dX1_joinedWithLamp_151 : decode cX1_joinedWithLamp 151 = .ok (.iinc 6 1, 3) := by decide +kernel
theorem dX1_joinedWithLamp_154 : decode cX1_joinedWithLamp 154 = .ok (.goto (-30), 3) := by decide +kernel
theorem dX1_joinedWithLamp_157 : decode cX1_joinedWithLamp 157 = .ok (.lload 4, 2) := by decide +kernel
theorem dX1_joinedWithLamp_159 : decode cX1_joinedWithLamp 159 = .ok (.lreturn, 1) := by decide +kernel
theorem dX2_init_0 : decode cX2_init 0 = .ok (.aload_n 0, 1) := by decide +kernel
theorem dX2_init_1 : decode cX2_init 1 = .ok (.invokespecial 1, 3) := by decide +kernel
theorem dX2_init_4 : decode cX2_init 4 = .ok (.aload_n 0, 1) := by decide +kernel
theorem dX2_init_5 : decode cX2_init 5 = .ok (.iconst 0, 1) := by decide +kernel
theorem dX2_init_6 : decode cX2_init 6 = .ok (.anewarray 7, 3) := by decide +kernel
theorem dX2_init_9 : decode cX2_init 9 = .ok (.putfield 9, 3) := by decide +kernel
theorem dX2_init_12 : decode cX2_init 12 = .ok (.aload_n 0, 1) := by decide +kernel
theorem dX2_init_13 : decode cX2_init 13 = .ok (.bipush 20, 2) := by decide +kernel
theorem dX2_init_15 : decode cX2_init 15 = .ok (.putfield 15, 3) := by decide +kernel
theorem dX2_init_18 : decode cX2_init 18 = .ok (.return_, 1) := by decide +kernel
theorem dX2_with_0 : decode cX2_with 0 = .ok (.aload_n 0, 1) := by decide +kernel
theorem dX2_with_1 : decode cX2_with 1 = .ok (.arraylength, 1) := by decide +kernel
theorem dX2_with_2 : decode cX2_with 2 = .ok (.iconst 1, 1) := by decide +kernel
theorem dX2_with_3 : decode cX2_with 3 = .ok (.iadd, 1) := by decide +kernel
theorem dX2_with_4 : decode cX2_with 4 = .ok (.anewarray 7, 3) := by decide +kernel
theorem dX2_with_7 : decode cX2_with 7 = .ok (.astore_n 2, 1) := by decide +kernel
theorem dX2_with_8 : decode cX2_with 8 = .ok (.iconst 0, 1) := by decide +kernel
theorem dX2_with_9 : decode cX2_with 9 = .ok (.istore_n 3, 1) := by decide +kernel
theorem dX2_with_10 : decode cX2_with 10 = .ok (.iload_n 3, 1) := by decide +kernel
theorem dX2_with_11 : decode cX2_with 11 = .ok (.aload_n 0, 1) := by decide +kernel
theorem dX2_with_12 : decode cX2_with 12 = .ok (.arraylength, 1) := by decide +kernel
theorem dX2_with_13 : decode cX2_with 13 = .ok (.if_icmp .ge 15, 3) := by decide +kernel
theorem dX2_with_16 : decode cX2_with 16 = .ok (.aload_n 2, 1) := by decide +kernel
theorem dX2_with_17 : decode cX2_with 17 = .ok (.iload_n 3, 1) := by decide +kernel
theorem dX2_with_18 : decode cX2_with 18 = .ok (.aload_n 0, 1) := by decide +kernel
theorem dX2_with_19 : decode cX2_with 19 = .ok (.iload_n 3, 1) := by decide +kernel
theorem dX2_with_20 : decode cX2_with 20 = .ok (.aaload, 1) := by decide +kernel
theorem dX2_with_21 : decode cX2_with 21 = .ok (.aastore, 1) := by decide +kernel
theorem dX2_with_22 : decode cX2_with 22 = .ok (.iinc 3 1, 3) := by decide +kernel
theorem dX2_with_25 : decode cX2_with 25 = .ok (.goto (-15), 3) := by decide +kernel
theorem dX2_with_28 : decode cX2_with 28 = .ok (.aload_n 2, 1) := by decide +kernel
theorem dX2_with_29 : decode cX2_with 29 = .ok (.aload_n 0, 1) := by decide +kernel
theorem dX2_with_30 : decode cX2_with 30 = .ok (.arraylength, 1) := by decide +kernel
theorem dX2_with_31 : decode cX2_with 31 = .ok (.aload_n 1, 1) := by decide +kernel
theorem dX2_with_32 : decode cX2_with 32 = .ok (.aastore, 1) := by decide +kernel
theorem dX2_with_33 : decode cX2_with 33 = .ok (.aload_n 2, 1) := by decide +kernel
theorem dX2_with_34 : decode cX2_with 34 = .ok (.areturn, 1) := by decide +kernel
theorem dX2_phase_0 : decode cX2_phase 0 = .ok (.aload_n 0, 1) := by decide +kernel
theorem dX2_phase_1 : decode cX2_phase 1 = .ok (.getfield 24, 3) := by decide +kernel
theorem dX2_phase_4 : decode cX2_phase 4 = .ok (.aload_n 0, 1) := by decide +kernel
theorem dX2_phase_5 : decode cX2_phase 5 = .ok (.getfield 9, 3) := by decide +kernel
theorem dX2_phase_8 : decode cX2_phase 8 = .ok (.iload_n 1, 1) := by decide +kernel
theorem dX2_phase_9 : decode cX2_phase 9 = .ok (.aaload, 1) := by decide +kernel
theorem dX2_phase_10 : decode cX2_phase 10 = .ok (.iconst 2, 1) := by decide +kernel
theorem dX2_phase_11 : decode cX2_phase 11 = .ok (.iaload, 1) := by decide +kernel
theorem dX2_phase_12 : decode cX2_phase 12 = .ok (.iadd, 1) := by decide +kernel
theorem dX2_phase_13 : decode cX2_phase 13 = .ok (.aload_n 0, 1) := by decide +kernel
theorem dX2_phase_14 : decode cX2_phase 14 = .ok (.getfield 9, 3) := by decide +kernel
theorem dX2_phase_17 : decode cX2_phase 17 = .ok (.iload_n 1, 1) := by decide +kernel
theorem dX2_phase_18 : decode cX2_phase 18 = .ok (.aaload, 1) := by decide +kernel
theorem dX2_phase_19 : decode cX2_phase 19 = .ok (.iconst 1, 1) := by decide +kernel
theorem dX2_phase_20 : decode cX2_phase 20 = .ok (.iaload, 1) := by decide +kernel
theorem dX2_phase_21 : decode cX2_phase 21 = .ok (.irem, 1) := by decide +kernel
theorem dX2_phase_22 : decode cX2_phase 22 = .ok (.ireturn, 1) := by decide +kernel
set_option maxRecDepth 20000 in
theorem ggX2_isDue_X2_phase : GoodIn wsX2_isDue wsX2_phase := goodIn_r _ [6, 7, 1, 8, 9, 10] (by decide +kernel) (by decide +kernel)
set_option maxRecDepth 20000 in
theorem gX2_isDue_X2_phase : GoodIn wsX2_isDue (wsV RX2 27 RX2 yX2_phase wsX2_phase) := goodIn_app (goodIn_of _ (by decide +kernel)) ggX2_isDue_X2_phase
theorem dX2_isDue_0 : decode cX2_isDue 0 = .ok (.aload_n 0, 1) := by decide +kernel
theorem dX2_isDue_1 : decode cX2_isDue 1 = .ok (.iload_n 1, 1) := by decide +kernel
theorem dX2_isDue_2 : decode cX2_isDue 2 = .ok (.invokevirtual 27, 3) := by decide +kernel
theorem dX2_isDue_5 : decode cX2_isDue 5 = .ok (.aload_n 0, 1) := by decide +kernel
theorem dX2_isDue_6 : decode cX2_isDue 6 = .ok (.getfield 9, 3) := by decide +kernel
theorem dX2_isDue_9 : decode cX2_isDue 9 = .ok (.iload_n 1, 1) := by decide +kernel
theorem dX2_isDue_10 : decode cX2_isDue 10 = .ok (.aaload, 1) := by decide +kernel
theorem dX2_isDue_11 : decode cX2_isDue 11 = .ok (.iconst 3, 1) := by decide +kernel
theorem dX2_isDue_12 : decode cX2_isDue 12 = .ok (.iaload, 1) := by decide +kernel
theorem dX2_isDue_13 : decode cX2_isDue 13 = .ok (.if_icmp .ge 7, 3) := by decide +kernel
theorem dX2_isDue_16 : decode cX2_isDue 16 = .ok (.iconst 1, 1) := by decide +kernel
theorem dX2_isDue_17 : decode cX2_isDue 17 = .ok (.goto 4, 3) := by decide +kernel
theorem dX2_isDue_20 : decode cX2_isDue 20 = .ok (.iconst 0, 1) := by decide +kernel
theorem dX2_isDue_21 : decode cX2_isDue 21 = .ok (.ireturn, 1) := by decide +kernel
set_option maxRecDepth 20000 in
theorem ggX2_shining_X2_isDue : GoodIn wsX2_shining wsX2_isDue := goodIn_r _ [8, 1, 9, 10, 11, 7, 12, 13, 14, 15, 16] (by decide +kernel) (by decide +kernel)
set_option maxRecDepth 20000 in
theorem gX2_shining_X2_isDue : GoodIn wsX2_shining (wsV RX2 31 RX2 yX2_isDue wsX2_isDue) := goodIn_app (goodIn_of _ (by decide +kernel)) ggX2_shining_X2_isDue
theorem dX2_shining_0 : decode cX2_shining 0 = .ok (.aload_n 0, 1) := by decide +kernel
theorem dX2_shining_1 : decode cX2_shining 1 = .ok (.getfield 9, 3) := by decide +kernel
theorem dX2_shining_4 : decode cX2_shining 4 = .ok (.arraylength, 1) := by decide +kernel
theorem dX2_shining_5 : decode cX2_shining 5 = .ok (.newarray .boolean, 2) := by decide +kernel
theorem dX2_shining_7 : decode cX2_shining 7 = .ok (.astore_n 1, 1) := by decide +kernel
theorem dX2_shining_8 : decode cX2_shining 8 = .ok (.aload_n 0, 1) := by decide +kernel
theorem dX2_shining_9 : decode cX2_shining 9 = .ok (.getfield 15, 3) := by decide +kernel
theorem dX2_shining_12 : decode cX2_shining 12 = .ok (.istore_n 2, 1) := by decide +kernel
theorem dX2_shining_13 : decode cX2_shining 13 = .ok (.iconst 0, 1) := by decide +kernel
theorem dX2_shining_14 : decode cX2_shining 14 = .ok (.istore_n 3, 1) := by decide +kernel
theorem dX2_shining_15 : decode cX2_shining 15 = .ok (.iload_n 3, 1) := by decide +kernel
theorem dX2_shining_16 : decode cX2_shining 16 = .ok (.aload_n 0, 1) := by decide +kernel
theorem dX2_shining_17 : decode cX2_shining 17 = .ok (.getfield 9, 3) := by decide +kernel
theorem dX2_shining_20 : decode cX2_shining 20 = .ok (.arraylength, 1) := by decide +kernel
theorem dX2_shining_21 : decode cX2_shining 21 = .ok (.if_icmp .ge 58, 3) := by decide +kernel
theorem dX2_shining_24 : decode cX2_shining 24 = .ok (.aload_n 1, 1) := by decide +kernel
theorem dX2_shining_25 : decode cX2_shining 25 = .ok (.iload_n 3, 1) := by decide +kernel
theorem dX2_shining_26 : decode cX2_shining 26 = .ok (.aload_n 0, 1) := by decide +kernel
theorem dX2_shining_27 : decode cX2_shining 27 = .ok (.iload_n 3, 1) := by decide +kernel
theorem dX2_shining_28 : decode cX2_shining 28 = .ok (.invokevirtual 31, 3) := by decide +kernel
theorem dX2_shining_31 : decode cX2_shining 31 = .ok (.ifCond .eq 19, 3) := by decide +kernel
theorem dX2_shining_34 : decode cX2_shining 34 = .ok (.aload_n 0, 1) := by decide +kernel
theorem dX2_shining_35 : decode cX2_shining 35 = .ok (.getfield 9, 3) := by decide +kernel
theorem dX2_shining_38 : decode cX2_shining 38 = .ok (.iload_n 3, 1) := by decide +kernel
theorem dX2_shining_39 : decode cX2_shining 39 = .ok (.aaload, 1) := by decide +kernel
theorem dX2_shining_40 : decode cX2_shining 40 = .ok (.iconst 4, 1) := by decide +kernel
theorem dX2_shining_41 : decode cX2_shining 41 = .ok (.iaload, 1) := by decide +kernel
theorem dX2_shining_42 : decode cX2_shining 42 = .ok (.iload_n 2, 1) := by decide +kernel
theorem dX2_shining_43 : decode cX2_shining 43 = .ok (.if_icmp .gt 7, 3) := by decide +kernel
theorem dX2_shining_46 : decode cX2_shining 46 = .ok (.iconst 1, 1) := by decide +kernel
theorem dX2_shining_47 : decode cX2_shining 47 = .ok (.goto 4, 3) := by decide +kernel
theorem dX2_shining_50 : decode cX2_shining 50 = .ok (.iconst 0, 1) := by decide +kernel
theorem dX2_shining_51 : decode cX2_shining 51 = .ok (.bastore, 1) := by decide +kernel
theorem dX2_shining_52 : decode cX2_shining 52 = .ok (.iload_n 2, 1) := by decide +kernel
theorem dX2_shining_53 : decode cX2_shining 53 = .ok (.aload_n 1, 1) := by decide +kernel
theorem dX2_shining_54 : decode cX2_shining 54 = .ok (.iload_n 3, 1) := by decide +kernel
theorem dX2_shining_55 : decode cX2_shining 55 = .ok (.baload, 1) := by decide +kernel
theorem dX2_shining_56 : decode cX2_shining 56 = .ok (.ifCond .eq 14, 3) := by decide +kernel
theorem dX2_shining_59 : decode cX2_shining 59 = .ok (.aload_n 0, 1) := by decide +kernel
theorem dX2_shining_60 : decode cX2_shining 60 = .ok (.getfield 9, 3) := by decide +kernel
theorem dX2_shining_63 : decode cX2_shining 63 = .ok (.iload_n 3, 1) := by decide +kernel
theorem dX2_shining_64 : decode cX2_shining 64 = .ok (.aaload, 1) := by decide +kernel
theorem dX2_shining_65 : decode cX2_shining 65 = .ok (.iconst 4, 1) := by decide +kernel
theorem dX2_shining_66 : decode cX2_shining 66 = .ok (.iaload, 1) := by decide +kernel
theorem dX2_shining_67 : decode cX2_shining 67 = .ok (.goto 4, 3) := by decide +kernel
theorem dX2_shining_70 : decode cX2_shining 70 = .ok (.iconst 0, 1) := by decide +kernel
theorem dX2_shining_71 : decode cX2_shining 71 = .ok (.isub, 1) := by decide +kernel
theorem dX2_shining_72 : decode cX2_shining 72 = .ok (.istore_n 2, 1) := by decide +kernel
theorem dX2_shining_73 : decode cX2_shining 73 = .ok (.iinc 3 1, 3) := by decide +kernel
theorem dX2_shining_76 : decode cX2_shining 76 = .ok (.goto (-61), 3) := by decide +kernel
theorem dX2_shining_79 : decode cX2_shining 79 = .ok (.aload_n 1, 1) := by decide +kernel
theorem dX2_shining_80 : decode cX2_shining 80 = .ok (.areturn, 1) := by decide +kernel
set_option maxRecDepth 20000 in
theorem ggX2_power_X2_shining : GoodIn wsX2_power wsX2_shining := goodIn_r _ [6, 1, 7, 8, 9, 10, 11, 5, 12, 13, 14, 15, 16, 17, 18, 19, 20] (by decide +kernel) (by decide +kernel)
set_option maxRecDepth 20000 in
theorem gX2_power_X2_shining : GoodIn wsX2_power (wsV RX2 35 RX2 yX2_shining wsX2_shining) := goodIn_app (goodIn_of _ (by decide +kernel)) ggX2_power_X2_shining
theorem dX2_power_0 : decode cX2_power 0 = .ok (.aload_n 0, 1) := by decide +kernel
theorem dX2_power_1 : decode cX2_power 1 = .ok (.invokevirtual 35, 3) := by decide +kernel
theorem dX2_power_4 : decode cX2_power 4 = .ok (.astore_n 1, 1) := by decide +kernel
theorem dX2_power_5 : decode cX2_power 5 = .ok (.iconst 0, 1) := by decide +kernel
theorem dX2_power_6 : decode cX2_power 6 = .ok (.istore_n 2, 1) := by decide +kernel
theorem dX2_power_7 : decode cX2_power 7 = .ok (.iconst 0, 1) := by decide +kernel
theorem dX2_power_8 : decode cX2_power 8 = .ok (.istore_n 3, 1) := by decide +kernel
theorem dX2_power_9 : decode cX2_power 9 = .ok (.iload_n 3, 1) := by decide +kernel
theorem dX2_power_10 : decode cX2_power 10 = .ok (.aload_n 0, 1) := by decide +kernel
theorem dX2_power_11 : decode cX2_power 11 = .ok (.getfield 9, 3) := by decide +kernel
theorem dX2_power_14 : decode cX2_power 14 = .ok (.arraylength, 1) := by decide +kernel
theorem dX2_power_15 : decode cX2_power 15 = .ok (.if_icmp .ge 30, 3) := by decide +kernel
theorem dX2_power_18 : decode cX2_power 18 = .ok (.iload_n 2, 1) := by decide +kernel
theorem dX2_power_19 : decode cX2_power 19 = .ok (.aload_n 1, 1) := by decide +kernel
theorem dX2_power_20 : decode cX2_power 20 = .ok (.iload_n 3, 1) := by decide +kernel
theorem dX2_power_21 : decode cX2_power 21 = .ok (.baload, 1) := by decide +kernel
theorem dX2_power_22 : decode cX2_power 22 = .ok (.ifCond .eq 14, 3) := by decide +kernel
theorem dX2_power_25 : decode cX2_power 25 = .ok (.aload_n 0, 1) := by decide +kernel
theorem dX2_power_26 : decode cX2_power 26 = .ok (.getfield 9, 3) := by decide +kernel
theorem dX2_power_29 : decode cX2_power 29 = .ok (.iload_n 3, 1) := by decide +kernel
theorem dX2_power_30 : decode cX2_power 30 = .ok (.aaload, 1) := by decide +kernel
theorem dX2_power_31 : decode cX2_power 31 = .ok (.iconst 4, 1) := by decide +kernel
theorem dX2_power_32 : decode cX2_power 32 = .ok (.iaload, 1) := by decide +kernel
theorem dX2_power_33 : decode cX2_power 33 = .ok (.goto 4, 3) := by decide +kernel
theorem dX2_power_36 : decode cX2_power 36 = .ok (.iconst 0, 1) := by decide +kernel
theorem dX2_power_37 : decode cX2_power 37 = .ok (.iadd, 1) := by decide +kernel
theorem dX2_power_38 : decode cX2_power 38 = .ok (.istore_n 2, 1) := by decide +kernel
theorem dX2_power_39 : decode cX2_power 39 = .ok (.iinc 3 1, 3) := by decide +kernel
theorem dX2_power_42 : decode cX2_power 42 = .ok (.goto (-33), 3) := by decide +kernel
theorem dX2_power_45 : decode cX2_power 45 = .ok (.iload_n 2, 1) := by decide +kernel
theorem dX2_power_46 : decode cX2_power 46 = .ok (.ireturn, 1) := by decide +kernel
set_option maxRecDepth 20000 in
theorem ggX2_pass_X2_shining : GoodIn wsX2_pass wsX2_shining := goodIn_r _ [7, 1, 8, 9, 10, 11, 12, 6, 13, 14, 15, 16, 17, 2, 18, 19, 20] (by decide +kernel) (by decide +kernel)
set_option maxRecDepth 20000 in
theorem gX2_pass_X2_shining : GoodIn wsX2_pass (wsV RX2 35 RX2 yX2_shining wsX2_shining) := goodIn_app (goodIn_of _ (by decide +kernel)) ggX2_pass_X2_shining
set_option maxRecDepth 20000 in
theorem ggX2_pass_X2_isDue : GoodIn wsX2_pass wsX2_isDue := goodIn_r _ [13, 1, 14, 15, 16, 6, 17, 2, 18, 19, 20] (by decide +kernel) (by decide +kernel)
set_option maxRecDepth 20000 in
theorem gX2_pass_X2_isDue : GoodIn wsX2_pass (wsV RX2 31 RX2 yX2_isDue wsX2_isDue) := goodIn_app (goodIn_of _ (by decide +kernel)) ggX2_pass_X2_isDue
theorem dX2_pass_0 : decode cX2_pass 0 = .ok (.aload_n 0, 1) := by decide +kernel
theorem dX2_pass_1 : decode cX2_pass 1 = .ok (.invokevirtual 35, 3) := by decide +kernel
theorem dX2_pass_4 : decode cX2_pass 4 = .ok (.astore_n 1, 1) := by decide +kernel
theorem dX2_pass_5 : decode cX2_pass 5 = .ok (.iconst 0, 1) := by decide +kernel
theorem dX2_pass_6 : decode cX2_pass 6 = .ok (.istore_n 2, 1) := by decide +kernel
theorem dX2_pass_7 : decode cX2_pass 7 = .ok (.iconst 0, 1) := by decide +kernel
theorem dX2_pass_8 : decode cX2_pass 8 = .ok (.istore_n 3, 1) := by decide +kernel
theorem dX2_pass_9 : decode cX2_pass 9 = .ok (.iload_n 3, 1) := by decide +kernel
theorem dX2_pass_10 : decode cX2_pass 10 = .ok (.aload_n 0, 1) := by decide +kernel
theorem dX2_pass_11 : decode cX2_pass 11 = .ok (.getfield 9, 3) := by decide +kernel
theorem dX2_pass_14 : decode cX2_pass 14 = .ok (.arraylength, 1) := by decide +kernel
theorem dX2_pass_15 : decode cX2_pass 15 = .ok (.if_icmp .ge 56, 3) := by decide +kernel
theorem dX2_pass_18 : decode cX2_pass 18 = .ok (.aload_n 1, 1) := by decide +kernel
theorem dX2_pass_19 : decode cX2_pass 19 = .ok (.iload_n 3, 1) := by decide +kernel
theorem dX2_pass_20 : decode cX2_pass 20 = .ok (.baload, 1) := by decide +kernel
theorem dX2_pass_21 : decode cX2_pass 21 = .ok (.ifCond .eq 15, 3) := by decide +kernel
theorem dX2_pass_24 : decode cX2_pass 24 = .ok (.aload_n 0, 1) := by decide +kernel
theorem dX2_pass_25 : decode cX2_pass 25 = .ok (.getfield 9, 3) := by decide +kernel
theorem dX2_pass_28 : decode cX2_pass 28 = .ok (.iload_n 3, 1) := by decide +kernel
theorem dX2_pass_29 : decode cX2_pass 29 = .ok (.aaload, 1) := by decide +kernel
theorem dX2_pass_30 : decode cX2_pass 30 = .ok (.iconst 5, 1) := by decide +kernel
theorem dX2_pass_31 : decode cX2_pass 31 = .ok (.dup2, 1) := by decide +kernel
theorem dX2_pass_32 : decode cX2_pass 32 = .ok (.iaload, 1) := by decide +kernel
theorem dX2_pass_33 : decode cX2_pass 33 = .ok (.iconst 1, 1) := by decide +kernel
theorem dX2_pass_34 : decode cX2_pass 34 = .ok (.iadd, 1) := by decide +kernel
theorem dX2_pass_35 : decode cX2_pass 35 = .ok (.iastore, 1) := by decide +kernel
theorem dX2_pass_36 : decode cX2_pass 36 = .ok (.aload_n 0, 1) := by decide +kernel
theorem dX2_pass_37 : decode cX2_pass 37 = .ok (.iload_n 3, 1) := by decide +kernel
theorem dX2_pass_38 : decode cX2_pass 38 = .ok (.invokevirtual 31, 3) := by decide +kernel
theorem dX2_pass_41 : decode cX2_pass 41 = .ok (.ifCond .eq 24, 3) := by decide +kernel
theorem dX2_pass_44 : decode cX2_pass 44 = .ok (.aload_n 1, 1) := by decide +kernel
theorem dX2_pass_45 : decode cX2_pass 45 = .ok (.iload_n 3, 1) := by decide +kernel
theorem dX2_pass_46 : decode cX2_pass 46 = .ok (.baload, 1) := by decide +kernel
theorem dX2_pass_47 : decode cX2_pass 47 = .ok (.ifCond .ne 18, 3) := by decide +kernel
theorem dX2_pass_50 : decode cX2_pass 50 = .ok (.aload_n 0, 1) := by decide +kernel
theorem dX2_pass_51 : decode cX2_pass 51 = .ok (.getfield 9, 3) := by decide +kernel
theorem dX2_pass_54 : decode cX2_pass 54 = .ok (.iload_n 3, 1) := by decide +kernel
theorem dX2_pass_55 : decode cX2_pass 55 = .ok (.aaload, 1) := by decide +kernel
theorem dX2_pass_56 : decode cX2_pass 56 = .ok (.bipush 6, 2) := by decide +kernel
theorem dX2_pass_58 : decode cX2_pass 58 = .ok (.dup2, 1) := by decide +kernel
theorem dX2_pass_59 : decode cX2_pass 59 = .ok (.iaload, 1) := by decide +kernel
theorem dX2_pass_60 : decode cX2_pass 60 = .ok (.iconst 1, 1) := by decide +kernel
theorem dX2_pass_61 : decode cX2_pass 61 = .ok (.iadd, 1) := by decide +kernel
theorem dX2_pass_62 : decode cX2_pass 62 = .ok (.iastore, 1) := by decide +kernel
theorem dX2_pass_63 : decode cX2_pass 63 = .ok (.iconst 1, 1) := by decide +kernel
theorem dX2_pass_64 : decode cX2_pass 64 = .ok (.istore_n 2, 1) := by decide +kernel
theorem dX2_pass_65 : decode cX2_pass 65 = .ok (.iinc 3 1, 3) := by decide +kernel
theorem dX2_pass_68 : decode cX2_pass 68 = .ok (.goto (-59), 3) := by decide +kernel
theorem dX2_pass_71 : decode cX2_pass 71 = .ok (.aload_n 0, 1) := by decide +kernel
theorem dX2_pass_72 : decode cX2_pass 72 = .ok (.dup, 1) := by decide +kernel
theorem dX2_pass_73 : decode cX2_pass 73 = .ok (.getfield 24, 3) := by decide +kernel
theorem dX2_pass_76 : decode cX2_pass 76 = .ok (.iconst 1, 1) := by decide +kernel
theorem dX2_pass_77 : decode cX2_pass 77 = .ok (.iadd, 1) := by decide +kernel
theorem dX2_pass_78 : decode cX2_pass 78 = .ok (.putfield 24, 3) := by decide +kernel
theorem dX2_pass_81 : decode cX2_pass 81 = .ok (.iload_n 2, 1) := by decide +kernel
theorem dX2_pass_82 : decode cX2_pass 82 = .ok (.ireturn, 1) := by decide +kernel
set_option maxRecDepth 20000 in
theorem ggX2_pass__X2_pass : GoodIn wsX2_pass_ wsX2_pass := goodIn_r _ [5, 6, 7, 8, 9, 10, 4, 11, 12, 13, 14, 15, 16, 17, 18, 19, 20, 21, 22, 23, 24] (by decide +kernel) (by decide +kernel)
set_option maxRecDepth 20000 in
theorem gX2_pass__X2_pass : GoodIn wsX2_pass_ (wsV RX2 39 RX2 yX2_pass wsX2_pass) := goodIn_app (goodIn_of _ (by decide +kernel)) ggX2_pass__X2_pass
theorem dX2_pass__0 : decode cX2_pass_ 0 = .ok (.iconst 0, 1) := by decide +kernel
theorem dX2_pass__1 : decode cX2_pass_ 1 = .ok (.istore_n 2, 1) := by decide +kernel
theorem dX2_pass__2 : decode cX2_pass_ 2 = .ok (.iconst 0, 1) := by decide +kernel
theorem dX2_pass__3 : decode cX2_pass_ 3 = .ok (.istore_n 3, 1) := by decide +kernel
theorem dX2_pass__4 : decode cX2_pass_ 4 = .ok (.iload_n 3, 1) := by decide +kernel
theorem dX2_pass__5 : decode cX2_pass_ 5 = .ok (.iload_n 1, 1) := by decide +kernel
theorem dX2_pass__6 : decode cX2_pass_ 6 = .ok (.if_icmp .ge 24, 3) := by decide +kernel
theorem dX2_pass__9 : decode cX2_pass_ 9 = .ok (.iload_n 2, 1) := by decide +kernel
theorem dX2_pass__10 : decode cX2_pass_ 10 = .ok (.aload_n 0, 1) := by decide +kernel
theorem dX2_pass__11 : decode cX2_pass_ 11 = .ok (.invokevirtual 39, 3) := by decide +kernel
theorem dX2_pass__14 : decode cX2_pass_ 14 = .ok (.ifCond .eq 7, 3) := by decide +kernel
theorem dX2_pass__17 : decode cX2_pass_ 17 = .ok (.iconst 1, 1) := by decide +kernel
theorem dX2_pass__18 : decode cX2_pass_ 18 = .ok (.goto 4, 3) := by decide +kernel
theorem dX2_pass__21 : decode cX2_pass_ 21 = .ok (.iconst 0, 1) := by decide +kernel
theorem dX2_pass__22 : decode cX2_pass_ 22 = .ok (.iadd, 1) := by decide +kernel
theorem dX2_pass__23 : decode cX2_pass_ 23 = .ok (.istore_n 2, 1) := by decide +kernel
theorem dX2_pass__24 : decode cX2_pass_ 24 = .ok (.iinc 3 1, 3) := by decide +kernel
theorem dX2_pass__27 : decode cX2_pass_ 27 = .ok (.goto (-23), 3) := by decide +kernel
theorem dX2_pass__30 : decode cX2_pass_ 30 = .ok (.iload_n 2, 1) := by decide +kernel
theorem dX2_pass__31 : decode cX2_pass_ 31 = .ok (.ireturn, 1) := by decide +kernel
theorem dX2_seen_0 : decode cX2_seen 0 = .ok (.iconst 0, 1) := by decide +kernel
theorem dX2_seen_1 : decode cX2_seen 1 = .ok (.istore_n 2, 1) := by decide +kernel
theorem dX2_seen_2 : decode cX2_seen 2 = .ok (.aload_n 0, 1) := by decide +kernel
theorem dX2_seen_3 : decode cX2_seen 3 = .ok (.getfield 9, 3) := by decide +kernel
theorem dX2_seen_6 : decode cX2_seen 6 = .ok (.astore_n 3, 1) := by decide +kernel
theorem dX2_seen_7 : decode cX2_seen 7 = .ok (.aload_n 3, 1) := by decide +kernel
theorem dX2_seen_8 : decode cX2_seen 8 = .ok (.arraylength, 1) := by decide +kernel
theorem dX2_seen_9 : decode cX2_seen 9 = .ok (.istore 4, 2) := by decide +kernel
theorem dX2_seen_11 : decode cX2_seen 11 = .ok (.iconst 0, 1) := by decide +kernel
theorem dX2_seen_12 : decode cX2_seen 12 = .ok (.istore 5, 2) := by decide +kernel
theorem dX2_seen_14 : decode cX2_seen 14 = .ok (.iload 5, 2) := by decide +kernel
theorem dX2_seen_16 : decode cX2_seen 16 = .ok (.iload 4, 2) := by decide +kernel
theorem dX2_seen_18 : decode cX2_seen 18 = .ok (.if_icmp .ge 34, 3) := by decide +kernel
theorem dX2_seen_21 : decode cX2_seen 21 = .ok (.aload_n 3, 1) := by decide +kernel
theorem dX2_seen_22 : decode cX2_seen 22 = .ok (.iload 5, 2) := by decide +kernel
theorem dX2_seen_24 : decode cX2_seen 24 = .ok (.aaload, 1) := by decide +kernel
theorem dX2_seen_25 : decode cX2_seen 25 = .ok (.astore 6, 2) := by decide +kernel
theorem dX2_seen_27 : decode cX2_seen 27 = .ok (.iload_n 2, 1) := by decide +kernel
theorem dX2_seen_28 : decode cX2_seen 28 = .ok (.aload 6, 2) := by decide +kernel
theorem dX2_seen_30 : decode cX2_seen 30 = .ok (.iconst 0, 1) := by decide +kernel
theorem dX2_seen_31 : decode cX2_seen 31 = .ok (.iaload, 1) := by decide +kernel
theorem dX2_seen_32 : decode cX2_seen 32 = .ok (.iload_n 1, 1) := by decide +kernel
theorem dX2_seen_33 : decode cX2_seen 33 = .ok (.if_icmp .ne 10, 3) := by decide +kernel
theorem dX2_seen_36 : decode cX2_seen 36 = .ok (.aload 6, 2) := by decide +kernel
theorem dX2_seen_38 : decode cX2_seen 38 = .ok (.iconst 5, 1) := by decide +kernel
theorem dX2_seen_39 : decode cX2_seen 39 = .ok (.iaload, 1) := by decide +kernel
theorem dX2_seen_40 : decode cX2_seen 40 = .ok (.goto 4, 3) := by decide +kernel
theorem dX2_seen_43 : decode cX2_seen 43 = .ok (.iconst 0, 1) := by decide +kernel
theorem dX2_seen_44 : decode cX2_seen 44 = .ok (.iadd, 1) := by decide +kernel
theorem dX2_seen_45 : decode cX2_seen 45 = .ok (.istore_n 2, 1) := by decide +kernel
theorem dX2_seen_46 : decode cX2_seen 46 = .ok (.iinc 5 1, 3) := by decide +kernel
theorem dX2_seen_49 : decode cX2_seen 49 = .ok (.goto (-35), 3) := by decide +kernel
theorem dX2_seen_52 : decode cX2_seen 52 = .ok (.iload_n 2, 1) := by decide +kernel
theorem dX2_seen_53 : decode cX2_seen 53 = .ok (.ireturn, 1) := by decide +kernel
set_option maxRecDepth 20000 in
theorem ggX2_unfairness_X2_seen : GoodIn wsX2_unfairness wsX2_seen := goodIn_r _ [14, 2, 15, 16, 17] (by decide +kernel) (by decide +kernel)
set_option maxRecDepth 20000 in
theorem gX2_unfairness_X2_seen : GoodIn wsX2_unfairness (wsV RX2 48 RX2 yX2_seen wsX2_seen) := goodIn_app (goodIn_of _ (by decide +kernel)) ggX2_unfairness_X2_seen
theorem dX2_unfairness_0 : decode cX2_unfairness 0 = .ok (.iconst 0, 1) := by decide +kernel
theorem dX2_unfairness_1 : decode cX2_unfairness 1 = .ok (.istore_n 1, 1) := by decide +kernel
theorem dX2_unfairness_2 : decode cX2_unfairness 2 = .ok (.ldc 47, 2) := by decide +kernel
theorem dX2_unfairness_4 : decode cX2_unfairness 4 = .ok (.istore_n 2, 1) := by decide +kernel
theorem dX2_unfairness_5 : decode cX2_unfairness 5 = .ok (.aload_n 0, 1) := by decide +kernel
theorem dX2_unfairness_6 : decode cX2_unfairness 6 = .ok (.getfield 9, 3) := by decide +kernel
theorem dX2_unfairness_9 : decode cX2_unfairness 9 = .ok (.astore_n 3, 1) := by decide +kernel
theorem dX2_unfairness_10 : decode cX2_unfairness 10 = .ok (.aload_n 3, 1) := by decide +kernel
theorem dX2_unfairness_11 : decode cX2_unfairness 11 = .ok (.arraylength, 1) := by decide +kernel
theorem dX2_unfairness_12 : decode cX2_unfairness 12 = .ok (.istore 4, 2) := by decide +kernel
theorem dX2_unfairness_14 : decode cX2_unfairness 14 = .ok (.iconst 0, 1) := by decide +kernel
theorem dX2_unfairness_15 : decode cX2_unfairness 15 = .ok (.istore 5, 2) := by decide +kernel
theorem dX2_unfairness_17 : decode cX2_unfairness 17 = .ok (.iload 5, 2) := by decide +kernel
theorem dX2_unfairness_19 : decode cX2_unfairness 19 = .ok (.iload 4, 2) := by decide +kernel
theorem dX2_unfairness_21 : decode cX2_unfairness 21 = .ok (.if_icmp .ge 41, 3) := by decide +kernel
theorem dX2_unfairness_24 : decode cX2_unfairness 24 = .ok (.aload_n 3, 1) := by decide +kernel
theorem dX2_unfairness_25 : decode cX2_unfairness 25 = .ok (.iload 5, 2) := by decide +kernel
theorem dX2_unfairness_27 : decode cX2_unfairness 27 = .ok (.aaload, 1) := by decide +kernel
theorem dX2_unfairness_28 : decode cX2_unfairness 28 = .ok (.astore 6, 2) := by decide +kernel
theorem dX2_unfairness_30 : decode cX2_unfairness 30 = .ok (.iload_n 1, 1) := by decide +kernel
theorem dX2_unfairness_31 : decode cX2_unfairness 31 = .ok (.aload_n 0, 1) := by decide +kernel
theorem dX2_unfairness_32 : decode cX2_unfairness 32 = .ok (.aload 6, 2) := by decide +kernel
theorem dX2_unfairness_34 : decode cX2_unfairness 34 = .ok (.iconst 0, 1) := by decide +kernel
theorem dX2_unfairness_35 : decode cX2_unfairness 35 = .ok (.iaload, 1) := by decide +kernel
theorem dX2_unfairness_36 : decode cX2_unfairness 36 = .ok (.invokevirtual 48, 3) := by decide +kernel
theorem dX2_unfairness_39 : decode cX2_unfairness 39 = .ok (.invokestatic 51, 3) := by decide +kernel
theorem dX2_unfairness_42 : decode cX2_unfairness 42 = .ok (.istore_n 1, 1) := by decide +kernel
theorem dX2_unfairness_43 : decode cX2_unfairness 43 = .ok (.iload_n 2, 1) := by decide +kernel
theorem dX2_unfairness_44 : decode cX2_unfairness 44 = .ok (.aload_n 0, 1) := by decide +kernel
theorem dX2_unfairness_45 : decode cX2_unfairness 45 = .ok (.aload 6, 2) := by decide +kernel
theorem dX2_unfairness_47 : decode cX2_unfairness 47 = .ok (.iconst 0, 1) := by decide +kernel
theorem dX2_unfairness_48 : decode cX2_unfairness 48 = .ok (.iaload, 1) := by decide +kernel
theorem dX2_unfairness_49 : decode cX2_unfairness 49 = .ok (.invokevirtual 48, 3) := by decide +kernel
theorem dX2_unfairness_52 : decode cX2_unfairness 52 = .ok (.invokestatic 56, 3) := by decide +kernel
theorem dX2_unfairness_55 : decode cX2_unfairness 55 = .ok (.istore_n 2, 1) := by decide +kernel
theorem dX2_unfairness_56 : decode cX2_unfairness 56 = .ok (.iinc 5 1, 3) := by decide +kernel
theorem dX2_unfairness_59 : decode cX2_unfairness 59 = .ok (.goto (-42), 3) := by decide +kernel
theorem dX2_unfairness_62 : decode cX2_unfairness 62 = .ok (.aload_n 0, 1) := by decide +kernel
theorem dX2_unfairness_63 : decode cX2_unfairness 63 = .ok (.getfield 9, 3) := by decide +kernel
theorem dX2_unfairness_66 : decode cX2_unfairness 66 = .ok (.arraylength, 1) := by decide +kernel
theorem dX2_unfairness_67 : decode cX2_unfairness 67 = .ok (.ifCond .ne 7, 3) := by decide +kernel
theorem dX2_unfairness_70 : decode cX2_unfairness 70 = .ok (.iconst 0, 1) := by decide +kernel
theorem dX2_unfairness_71 : decode cX2_unfairness 71 = .ok (.goto 6, 3) := by decide +kernel
theorem dX2_unfairness_74 : decode cX2_unfairness 74 = .ok (.iload_n 1, 1) := by decide +kernel
theorem dX2_unfairness_75 : decode cX2_unfairness 75 = .ok (.iload_n 2, 1) := by decide +kernel
theorem dX2_unfairness_76 : decode cX2_unfairness 76 = .ok (.isub, 1) := by decide +kernel
theorem dX2_unfairness_77 : decode cX2_unfairness 77 = .ok (.ireturn, 1) := by decide +kernel
set_option maxRecDepth 20000 in
theorem ggX2_isSame_X2_shining : GoodIn wsX2_isSame wsX2_shining := goodIn_r _ [8, 1, 9, 3, 10, 11, 12, 7, 13, 14, 15, 16, 17, 2, 175, 176, 177] (by decide +kernel) (by decide +kernel)
set_option maxRecDepth 20000 in
theorem gX2_isSame_X2_shining : GoodIn wsX2_isSame (wsV RX2 35 RX2 yX2_shining wsX2_shining) := goodIn_app (goodIn_of _ (by decide +kernel)) ggX2_isSame_X2_shining
set_option maxRecDepth 20000 in
theorem ggX2_isSame_X1_phaseOf : GoodIn wsX2_isSame wsX1_phaseOf := goodIn_ca (goodIn_r _ [22, 23, 24, 25, 26, 21, 27, 28, 29, 30, 31, 32, 33, 34, 35, 36, 37, 38, 39, 40, 41, 42, 43, 44, 45, 46, 47, 48, 49, 50, 51, 52, 53, 54, 55, 56, 57, 58, 59, 60, 61, 178, 179, 180, 181, 182, 183, 184, 185, 186, 187, 188, 189, 190, 191, 192] (by decide +kernel) (by decide +kernel)) (goodIn_sub (fun _ h => List.mem_cons_of_mem _ (List.mem_append_left _ (List.mem_append_right _ h))) (by decide +kernel))
set_option maxRecDepth 20000 in
theorem gX2_isSame_X1_phaseOf : GoodIn wsX2_isSame (wsV RX2 59 RX1 yX1_phaseOf wsX1_phaseOf) := goodIn_app (goodIn_of _ (by decide +kernel)) ggX2_isSame_X1_phaseOf
set_option maxRecDepth 20000 in
theorem ggX2_isSame_X2_phase : GoodIn wsX2_isSame wsX2_phase := goodIn_r _ [17, 2, 1, 175, 176, 177] (by decide +kernel) (by decide +kernel)
set_option maxRecDepth 20000 in
theorem gX2_isSame_X2_phase : GoodIn wsX2_isSame (wsV RX2 27 RX2 yX2_phase wsX2_phase) := goodIn_app (goodIn_of _ (by decide +kernel)) ggX2_isSame_X2_phase
set_option maxRecDepth 20000 in
theorem ggX2_isSame_X1_isDue : GoodIn wsX2_isSame wsX1_isDue := goodIn_ca (goodIn_r _ [65, 23, 24, 25, 26, 21, 27, 28, 29, 30, 31, 32, 33, 34, 35, 36, 37, 38, 39, 40, 41, 42, 43, 44, 45, 46, 47, 48, 49, 50, 51, 52, 53, 54, 66, 67, 68, 58, 69, 70, 71, 56, 57, 59, 60, 61, 178, 179, 180, 181, 182, 183, 184, 185, 186, 187, 188, 189, 190, 191, 192] (by decide +kernel) (by decide +kernel)) (goodIn_sub (fun _ h => List.mem_cons_of_mem _ (List.mem_append_left _ (List.mem_append_right _ h))) (by decide +kernel))
set_option maxRecDepth 20000 in
theorem gX2_isSame_X1_isDue : GoodIn wsX2_isSame (wsV RX2 64 RX1 yX1_isDue wsX1_isDue) := goodIn_app (goodIn_of _ (by decide +kernel)) ggX2_isSame_X1_isDue
set_option maxRecDepth 20000 in
theorem ggX2_isSame_X2_isDue : GoodIn wsX2_isSame wsX2_isDue := goodIn_r _ [13, 1, 14, 15, 16, 7, 17, 2, 175, 176, 177] (by decide +kernel) (by decide +kernel)
set_option maxRecDepth 20000 in
theorem gX2_isSame_X2_isDue : GoodIn wsX2_isSame (wsV RX2 31 RX2 yX2_isDue wsX2_isDue) := goodIn_app (goodIn_of _ (by decide +kernel)) ggX2_isSame_X2_isDue
set_option maxRecDepth 20000 in
theorem ggX2_isSame_X1_shines : GoodIn wsX2_isSame wsX1_shines := goodIn_ca (goodIn_r _ [75, 23, 76, 24, 25, 26, 21, 27, 28, 29, 30, 31, 32, 33, 34, 35, 36, 37, 38, 39, 40, 41, 42, 43, 44, 45, 46, 47, 48, 49, 50, 51, 52, 53, 54, 77, 78, 79, 80, 81, 82, 66, 67, 68, 58, 69, 70, 71, 56, 57, 59, 60, 61, 178, 179, 180, 184, 185, 186, 187, 188, 189, 190, 191, 192, 181, 182, 183] (by decide +kernel) (by decide +kernel)) (goodIn_sub (fun _ h => List.mem_cons_of_mem _ (List.mem_append_left _ (List.mem_append_right _ h))) (by decide +kernel))
set_option maxRecDepth 20000 in
theorem gX2_isSame_X1_shines : GoodIn wsX2_isSame (wsV RX2 65 RX1 yX1_shines wsX1_shines) := goodIn_app (goodIn_of _ (by decide +kernel)) ggX2_isSame_X1_shines
set_option maxRecDepth 20000 in
theorem ggX2_isSame_X1_colourOf : GoodIn wsX2_isSame wsX1_colourOf := goodIn_ca (goodIn_r _ [86, 87, 24, 25, 26, 21, 27, 28, 29, 30, 31, 32, 33, 34, 35, 36, 37, 38, 39, 40, 41, 42, 43, 44, 45, 46, 47, 48, 49, 50, 51, 52, 53, 54, 184, 185, 186, 187, 188, 189, 190, 191, 192, 178, 179, 180, 181, 182, 183] (by decide +kernel) (by decide +kernel)) (goodIn_sub (fun _ h => List.mem_cons_of_mem _ (List.mem_append_left _ (List.mem_append_right _ h))) (by decide +kernel))
set_option maxRecDepth 20000 in
theorem gX2_isSame_X1_colourOf : GoodIn wsX2_isSame (wsV RX2 68 RX1 yX1_colourOf wsX1_colourOf) := goodIn_app (goodIn_of _ (by decide +kernel)) ggX2_isSame_X1_colourOf
set_option maxRecDepth 20000 in
theorem ggX2_isSame_X1_shiftOf : GoodIn wsX2_isSame wsX1_shiftOf := goodIn_ca (goodIn_r _ [91, 92, 24, 25, 26, 21, 27, 28, 29, 30, 31, 32, 33, 34, 35, 36, 37, 38, 39, 40, 41, 42, 43, 44, 45, 46, 47, 48, 49, 50, 51, 52, 53, 54, 184, 185, 186, 187, 188, 189, 190, 191, 192, 178, 179, 180, 181, 182, 183] (by decide +kernel) (by decide +kernel)) (goodIn_sub (fun _ h => List.mem_cons_of_mem _ (List.mem_append_left _ (List.mem_append_right _ h))) (by decide +kernel))
set_option maxRecDepth 20000 in
theorem gX2_isSame_X1_shiftOf : GoodIn wsX2_isSame (wsV RX2 71 RX1 yX1_shiftOf wsX1_shiftOf) := goodIn_app (goodIn_of _ (by decide +kernel)) ggX2_isSame_X1_shiftOf
set_option maxRecDepth 20000 in
theorem ggX2_isSame_X1_shone : GoodIn wsX2_isSame wsX1_shone := goodIn_ca (goodIn_r _ [96, 97, 24, 25, 26, 21, 27, 28, 29, 30, 31, 32, 33, 34, 35, 36, 37, 38, 39, 40, 41, 42, 43, 44, 45, 46, 47, 48, 49, 50, 51, 52, 53, 54, 184, 185, 186, 187, 188, 189, 190, 191, 192, 178, 179, 180, 181, 182, 183] (by decide +kernel) (by decide +kernel)) (goodIn_sub (fun _ h => List.mem_cons_of_mem _ (List.mem_append_left _ (List.mem_append_right _ h))) (by decide +kernel))
set_option maxRecDepth 20000 in
theorem gX2_isSame_X1_shone : GoodIn wsX2_isSame (wsV RX2 74 RX1 yX1_shone wsX1_shone) := goodIn_app (goodIn_of _ (by decide +kernel)) ggX2_isSame_X1_shone
set_option maxRecDepth 20000 in
theorem ggX2_isSame_X1_stayedDark : GoodIn wsX2_isSame wsX1_stayedDark := goodIn_ca (goodIn_r _ [101, 102, 24, 25, 26, 21, 27, 28, 29, 30, 31, 32, 33, 34, 35, 36, 37, 38, 39, 40, 41, 42, 43, 44, 45, 46, 47, 48, 49, 50, 51, 52, 53, 54, 184, 185, 186, 187, 188, 189, 190, 191, 192, 178, 179, 180, 181, 182, 183] (by decide +kernel) (by decide +kernel)) (goodIn_sub (fun _ h => List.mem_cons_of_mem _ (List.mem_append_left _ (List.mem_append_right _ h))) (by decide +kernel))
set_option maxRecDepth 20000 in
theorem gX2_isSame_X1_stayedDark : GoodIn wsX2_isSame (wsV RX2 77 RX1 yX1_stayedDark wsX1_stayedDark) := goodIn_app (goodIn_of _ (by decide +kernel)) ggX2_isSame_X1_stayedDark
set_option maxRecDepth 20000 in
theorem ggX2_isSame_X1_seen : GoodIn wsX2_isSame wsX1_seen := goodIn_ca (goodIn_r _ [106, 30, 31, 87, 97, 107, 108, 21, 109, 110, 111, 32, 33, 34, 35, 36, 37, 38, 39, 40, 41, 42, 43, 44, 45, 46, 47, 48, 49, 50, 51, 52, 53, 54, 178, 179, 180, 184, 185, 186, 187, 188, 189, 190, 191, 192, 181, 182, 183] (by decide +kernel) (by decide +kernel)) (goodIn_sub (fun _ h => List.mem_cons_of_mem _ (List.mem_append_right _ h)) (by decide +kernel))
set_option maxRecDepth 20000 in
theorem gX2_isSame_X1_seen : GoodIn wsX2_isSame (wsV RX2 80 RX1 yX1_seen wsX1_seen) := goodIn_app (goodIn_of _ (by decide +kernel)) ggX2_isSame_X1_seen
set_option maxRecDepth 20000 in
theorem ggX2_isSame_X2_seen : GoodIn wsX2_isSame wsX2_seen := goodIn_r _ [115, 1, 175, 176, 177] (by decide +kernel) (by decide +kernel)
set_option maxRecDepth 20000 in
theorem gX2_isSame_X2_seen : GoodIn wsX2_isSame (wsV RX2 48 RX2 yX2_seen wsX2_seen) := goodIn_app (goodIn_of _ (by decide +kernel)) ggX2_isSame_X2_seen
set_option maxRecDepth 20000 in
theorem ggX2_isSame_X1_beat : GoodIn wsX2_isSame wsX1_beat := goodIn_r _ [119, 23, 178, 179, 180] (by decide +kernel) (by decide +kernel)
set_option maxRecDepth 20000 in
theorem gX2_isSame_X1_beat : GoodIn wsX2_isSame (wsV RX2 81 RX1 yX1_beat wsX1_beat) := goodIn_app (goodIn_of _ (by decide +kernel)) ggX2_isSame_X1_beat
set_option maxRecDepth 20000 in
theorem ggX2_isSame_X1_lamps : GoodIn wsX2_isSame wsX1_lamps := goodIn_r _ [123, 30, 32, 33, 34, 35, 36, 37, 178, 179, 180, 181, 182, 183] (by decide +kernel) (by decide +kernel)
set_option maxRecDepth 20000 in
theorem gX2_isSame_X1_lamps : GoodIn wsX2_isSame (wsV RX2 84 RX1 yX1_lamps wsX1_lamps) := goodIn_app (goodIn_of _ (by decide +kernel)) ggX2_isSame_X1_lamps
set_option maxRecDepth 20000 in
theorem ggX2_isSame_X1_limit : GoodIn wsX2_isSame wsX1_limit := goodIn_r _ [127, 82, 178, 179, 180] (by decide +kernel) (by decide +kernel)
set_option maxRecDepth 20000 in
theorem gX2_isSame_X1_limit : GoodIn wsX2_isSame (wsV RX2 86 RX1 yX1_limit wsX1_limit) := goodIn_app (goodIn_of _ (by decide +kernel)) ggX2_isSame_X1_limit
set_option maxRecDepth 20000 in
theorem ggX2_isSame_X1_power : GoodIn wsX2_isSame wsX1_power := goodIn_r _ [131, 23, 77, 78, 79, 21, 80, 30, 31, 81, 82, 76, 32, 33, 34, 35, 36, 37, 38, 39, 40, 41, 42, 43, 44, 45, 46, 47, 48, 49, 50, 51, 52, 53, 54, 66, 67, 68, 58, 69, 70, 71, 56, 57, 59, 60, 61, 178, 179, 180, 184, 185, 186, 187, 188, 189, 190, 191, 192, 181, 182, 183] (by decide +kernel) (by decide +kernel)
set_option maxRecDepth 20000 in
theorem gX2_isSame_X1_power : GoodIn wsX2_isSame (wsV RX2 88 RX1 yX1_power wsX1_power) := goodIn_app (goodIn_of _ (by decide +kernel)) ggX2_isSame_X1_power
set_option maxRecDepth 20000 in
theorem ggX2_isSame_X2_power : GoodIn wsX2_isSame wsX2_power := goodIn_r _ [135, 1, 4, 5, 6, 7, 8, 9, 3, 10, 11, 12, 13, 14, 15, 16, 17, 2, 175, 176, 177] (by decide +kernel) (by decide +kernel)
set_option maxRecDepth 20000 in
theorem gX2_isSame_X2_power : GoodIn wsX2_isSame (wsV RX2 91 RX2 yX2_power wsX2_power) := goodIn_app (goodIn_of _ (by decide +kernel)) ggX2_isSame_X2_power
set_option maxRecDepth 20000 in
theorem ggX2_isSame_X1_unfairness : GoodIn wsX2_isSame wsX1_unfairness := goodIn_r _ [139, 140, 141, 142, 21, 143, 30, 31, 97, 144, 23, 32, 33, 34, 35, 36, 37, 38, 39, 40, 41, 42, 43, 44, 45, 46, 47, 48, 49, 50, 51, 52, 53, 54, 145, 146, 147, 148, 76, 77, 78, 79, 80, 81, 82, 66, 67, 68, 58, 69, 70, 71, 56, 57, 59, 60, 61, 149, 150, 151, 152, 153, 154, 155, 156, 157, 158, 159, 160, 161, 162, 163, 87, 178, 179, 180, 184, 185, 186, 187, 188, 189, 190, 191, 192, 181, 182, 183] (by decide +kernel) (by decide +kernel)
set_option maxRecDepth 20000 in
theorem gX2_isSame_X1_unfairness : GoodIn wsX2_isSame (wsV RX2 92 RX1 yX1_unfairness wsX1_unfairness) := goodIn_app (goodIn_of _ (by decide +kernel)) ggX2_isSame_X1_unfairness
set_option maxRecDepth 20000 in
theorem ggX2_isSame_X2_unfairness : GoodIn wsX2_isSame wsX2_unfairness := goodIn_r _ [167, 168, 1, 169, 154, 155, 156, 170, 158, 159, 112, 113, 114, 7, 115, 175, 176, 177] (by decide +kernel) (by decide +kernel)
set_option maxRecDepth 20000 in
theorem gX2_isSame_X2_unfairness : GoodIn wsX2_isSame (wsV RX2 95 RX2 yX2_unfairness wsX2_unfairness) := goodIn_app (goodIn_of _ (by decide +kernel)) ggX2_isSame_X2_unfairness
set_option maxRecDepth 20000 in
theorem ggX2_isSame_X1_meanShone : GoodIn wsX2_isSame wsX1_meanShone := goodIn_r _ [174, 30, 31, 97, 32, 33, 34, 35, 36, 37, 38, 39, 40, 41, 42, 43, 44, 45, 46, 47, 48, 49, 50, 51, 52, 53, 54, 178, 179, 180, 184, 185, 186, 187, 188, 189, 190, 191, 192, 181, 182, 183] (by decide +kernel) (by decide +kernel)
set_option maxRecDepth 20000 in
theorem gX2_isSame_X1_meanShone : GoodIn wsX2_isSame (wsV RX2 96 RX1 yX1_meanShone wsX1_meanShone) := goodIn_app (goodIn_of _ (by decide +kernel)) ggX2_isSame_X1_meanShone
theorem dX2_isSame_0 : decode cX2_isSame 0 = .ok (.aload_n 0, 1) := by decide +kernel
theorem dX2_isSame_1 : decode cX2_isSame 1 = .ok (.invokevirtual 35, 3) := by decide +kernel
theorem dX2_isSame_4 : decode cX2_isSame 4 = .ok (.astore_n 2, 1) := by decide +kernel
theorem dX2_isSame_5 : decode cX2_isSame 5 = .ok (.iconst 0, 1) := by decide +kernel
theorem dX2_isSame_6 : decode cX2_isSame 6 = .ok (.istore_n 3, 1) := by decide +kernel
theorem dX2_isSame_7 : decode cX2_isSame 7 = .ok (.iconst 0, 1) := by decide +kernel
theorem dX2_isSame_8 : decode cX2_isSame 8 = .ok (.istore 4, 2) := by decide +kernel
theorem dX2_isSame_10 : decode cX2_isSame 10 = .ok (.iload 4, 2) := by decide +kernel
theorem dX2_isSame_12 : decode cX2_isSame 12 = .ok (.aload_n 0, 1) := by decide +kernel
theorem dX2_isSame_13 : decode cX2_isSame 13 = .ok (.getfield 9, 3) := by decide +kernel
theorem dX2_isSame_16 : decode cX2_isSame 16 = .ok (.arraylength, 1) := by decide +kernel
theorem dX2_isSame_17 : decode cX2_isSame 17 = .ok (.if_icmp .ge 123, 3) := by decide +kernel
theorem dX2_isSame_20 : decode cX2_isSame 20 = .ok (.aload_n 0, 1) := by decide +kernel
theorem dX2_isSame_21 : decode cX2_isSame 21 = .ok (.getfield 9, 3) := by decide +kernel
theorem dX2_isSame_24 : decode cX2_isSame 24 = .ok (.iload 4, 2) := by decide +kernel
theorem dX2_isSame_26 : decode cX2_isSame 26 = .ok (.aaload, 1) := by decide +kernel
theorem dX2_isSame_27 : decode cX2_isSame 27 = .ok (.astore 5, 2) := by decide +kernel
theorem dX2_isSame_29 : decode cX2_isSame 29 = .ok (.iload_n 3, 1) := by decide +kernel
theorem dX2_isSame_30 : decode cX2_isSame 30 = .ok (.aload 5, 2) := by decide +kernel
theorem dX2_isSame_32 : decode cX2_isSame 32 = .ok (.iconst 5, 1) := by decide +kernel
theorem dX2_isSame_33 : decode cX2_isSame 33 = .ok (.iaload, 1) := by decide +kernel
theorem dX2_isSame_34 : decode cX2_isSame 34 = .ok (.iadd, 1) := by decide +kernel
theorem dX2_isSame_35 : decode cX2_isSame 35 = .ok (.istore_n 3, 1) := by decide +kernel
theorem dX2_isSame_36 : decode cX2_isSame 36 = .ok (.aload_n 1, 1) := by decide +kernel
theorem dX2_isSame_37 : decode cX2_isSame 37 = .ok (.iload 4, 2) := by decide +kernel
theorem dX2_isSame_39 : decode cX2_isSame 39 = .ok (.invokevirtual 59, 3) := by decide +kernel
theorem dX2_isSame_42 : decode cX2_isSame 42 = .ok (.aload_n 0, 1) := by decide +kernel
theorem dX2_isSame_43 : decode cX2_isSame 43 = .ok (.iload 4, 2) := by decide +kernel
theorem dX2_isSame_45 : decode cX2_isSame 45 = .ok (.invokevirtual 27, 3) := by decide +kernel
theorem dX2_isSame_48 : decode cX2_isSame 48 = .ok (.if_icmp .ne 84, 3) := by decide +kernel
theorem dX2_isSame_51 : decode cX2_isSame 51 = .ok (.aload_n 1, 1) := by decide +kernel
theorem dX2_isSame_52 : decode cX2_isSame 52 = .ok (.iload 4, 2) := by decide +kernel
theorem dX2_isSame_54 : decode cX2_isSame 54 = .ok (.invokevirtual 64, 3) := by decide +kernel
theorem dX2_isSame_57 : decode cX2_isSame 57 = .ok (.aload_n 0, 1) := by decide +kernel
theorem dX2_isSame_58 : decode cX2_isSame 58 = .ok (.iload 4, 2) := by decide +kernel
theorem dX2_isSame_60 : decode cX2_isSame 60 = .ok (.invokevirtual 31, 3) := by decide +kernel
theorem dX2_isSame_63 : decode cX2_isSame 63 = .ok (.if_icmp .ne 69, 3) := by decide +kernel
theorem dX2_isSame_66 : decode cX2_isSame 66 = .ok (.aload_n 1, 1) := by decide +kernel
theorem dX2_isSame_67 : decode cX2_isSame 67 = .ok (.iload 4, 2) := by decide +kernel
theorem dX2_isSame_69 : decode cX2_isSame 69 = .ok (.invokevirtual 65, 3) := by decide +kernel
theorem dX2_isSame_72 : decode cX2_isSame 72 = .ok (.aload_n 2, 1) := by decide +kernel
theorem dX2_isSame_73 : decode cX2_isSame 73 = .ok (.iload 4, 2) := by decide +kernel
theorem dX2_isSame_75 : decode cX2_isSame 75 = .ok (.baload, 1) := by decide +kernel
theorem dX2_isSame_76 : decode cX2_isSame 76 = .ok (.if_icmp .ne 56, 3) := by decide +kernel
theorem dX2_isSame_79 : decode cX2_isSame 79 = .ok (.aload_n 1, 1) := by decide +kernel
theorem dX2_isSame_80 : decode cX2_isSame 80 = .ok (.iload 4, 2) := by decide +kernel
theorem dX2_isSame_82 : decode cX2_isSame 82 = .ok (.invokevirtual 68, 3) := by decide +kernel
theorem dX2_isSame_85 : decode cX2_isSame 85 = .ok (.aload 5, 2) := by decide +kernel
theorem dX2_isSame_87 : decode cX2_isSame 87 = .ok (.iconst 0, 1) := by decide +kernel
theorem dX2_isSame_88 : decode cX2_isSame 88 = .ok (.iaload, 1) := by decide +kernel
theorem dX2_isSame_89 : decode cX2_isSame 89 = .ok (.if_icmp .ne 43, 3) := by decide +kernel
theorem dX2_isSame_92 : decode cX2_isSame 92 = .ok (.aload_n 1, 1) := by decide +kernel
theorem dX2_isSame_93 : decode cX2_isSame 93 = .ok (.iload 4, 2) := by decide +kernel
theorem dX2_isSame_95 : decode cX2_isSame 95 = .ok (.invokevirtual 71, 3) := by decide +kernel
theorem dX2_isSame_98 : decode cX2_isSame 98 = .ok (.aload 5, 2) := by decide +kernel
theorem dX2_isSame_100 : decode cX2_isSame 100 = .ok (.iconst 2, 1) := by decide +kernel
theorem dX2_isSame_101 : decode cX2_isSame 101 = .ok (.iaload, 1) := by decide +kernel
theorem dX2_isSame_102 : decode cX2_isSame 102 = .ok (.if_icmp .ne 30, 3) := by decide +kernel
theorem dX2_isSame_105 : decode cX2_isSame 105 = .ok (.aload_n 1, 1) := by decide +kernel
theorem dX2_isSame_106 : decode cX2_isSame 106 = .ok (.iload 4, 2) := by decide +kernel
theorem dX2_isSame_108 : decode cX2_isSame 108 = .ok (.invokevirtual 74, 3) := by decide +kernel
theorem dX2_isSame_111 : decode cX2_isSame 111 = .ok (.aload 5, 2) := by decide +kernel
theorem dX2_isSame_113 : decode cX2_isSame 113 = .ok (.iconst 5, 1) := by decide +kernel
theorem dX2_isSame_114 : decode cX2_isSame 114 = .ok (.iaload, 1) := by decide +kernel
theorem dX2_isSame_115 : decode cX2_isSame 115 = .ok (.if_icmp .ne 17, 3) := by decide +kernel
theorem dX2_isSame_118 : decode cX2_isSame 118 = .ok (.aload_n 1, 1) := by decide +kernel
theorem dX2_isSame_119 : decode cX2_isSame 119 = .ok (.iload 4, 2) := by decide +kernel
theorem dX2_isSame_121 : decode cX2_isSame 121 = .ok (.invokevirtual 77, 3) := by decide +kernel
theorem dX2_isSame_124 : decode cX2_isSame 124 = .ok (.aload 5, 2) := by decide +kernel
theorem dX2_isSame_126 : decode cX2_isSame 126 = .ok (.bipush 6, 2) := by decide +kernel
theorem dX2_isSame_128 : decode cX2_isSame 128 = .ok (.iaload, 1) := by decide +kernel
theorem dX2_isSame_129 : decode cX2_isSame 129 = .ok (.if_icmp .eq 5, 3) := by decide +kernel
theorem dX2_isSame_132 : decode cX2_isSame 132 = .ok (.iconst 0, 1) := by decide +kernel
theorem dX2_isSame_133 : decode cX2_isSame 133 = .ok (.ireturn, 1) := by decide +kernel
theorem dX2_isSame_134 : decode cX2_isSame 134 = .ok (.iinc 4 1, 3) := by decide +kernel
theorem dX2_isSame_137 : decode cX2_isSame 137 = .ok (.goto (-127), 3) := by decide +kernel
theorem dX2_isSame_140 : decode cX2_isSame 140 = .ok (.iconst 0, 1) := by decide +kernel
theorem dX2_isSame_141 : decode cX2_isSame 141 = .ok (.istore 4, 2) := by decide +kernel
theorem dX2_isSame_143 : decode cX2_isSame 143 = .ok (.iload 4, 2) := by decide +kernel
theorem dX2_isSame_145 : decode cX2_isSame 145 = .ok (.bipush 6, 2) := by decide +kernel
theorem dX2_isSame_147 : decode cX2_isSame 147 = .ok (.if_icmp .ge 26, 3) := by decide +kernel
theorem dX2_isSame_150 : decode cX2_isSame 150 = .ok (.aload_n 1, 1) := by decide +kernel
theorem dX2_isSame_151 : decode cX2_isSame 151 = .ok (.iload 4, 2) := by decide +kernel
theorem dX2_isSame_153 : decode cX2_isSame 153 = .ok (.invokevirtual 80, 3) := by decide +kernel
theorem dX2_isSame_156 : decode cX2_isSame 156 = .ok (.aload_n 0, 1) := by decide +kernel
theorem dX2_isSame_157 : decode cX2_isSame 157 = .ok (.iload 4, 2) := by decide +kernel
theorem dX2_isSame_159 : decode cX2_isSame 159 = .ok (.invokevirtual 48, 3) := by decide +kernel
theorem dX2_isSame_162 : decode cX2_isSame 162 = .ok (.if_icmp .eq 5, 3) := by decide +kernel
theorem dX2_isSame_165 : decode cX2_isSame 165 = .ok (.iconst 0, 1) := by decide +kernel
theorem dX2_isSame_166 : decode cX2_isSame 166 = .ok (.ireturn, 1) := by decide +kernel
theorem dX2_isSame_167 : decode cX2_isSame 167 = .ok (.iinc 4 1, 3) := by decide +kernel
theorem dX2_isSame_170 : decode cX2_isSame 170 = .ok (.goto (-27), 3) := by decide +kernel
theorem dX2_isSame_173 : decode cX2_isSame 173 = .ok (.aload_n 1, 1) := by decide +kernel
theorem dX2_isSame_174 : decode cX2_isSame 174 = .ok (.invokevirtual 81, 3) := by decide +kernel
theorem dX2_isSame_177 : decode cX2_isSame 177 = .ok (.aload_n 0, 1) := by decide +kernel
theorem dX2_isSame_178 : decode cX2_isSame 178 = .ok (.getfield 24, 3) := by decide +kernel
theorem dX2_isSame_181 : decode cX2_isSame 181 = .ok (.if_icmp .ne 81, 3) := by decide +kernel
theorem dX2_isSame_184 : decode cX2_isSame 184 = .ok (.aload_n 1, 1) := by decide +kernel
theorem dX2_isSame_185 : decode cX2_isSame 185 = .ok (.invokevirtual 84, 3) := by decide +kernel
theorem dX2_isSame_188 : decode cX2_isSame 188 = .ok (.aload_n 0, 1) := by decide +kernel
theorem dX2_isSame_189 : decode cX2_isSame 189 = .ok (.getfield 9, 3) := by decide +kernel
theorem dX2_isSame_192 : decode cX2_isSame 192 = .ok (.arraylength, 1) := by decide +kernel
theorem dX2_isSame_193 : decode cX2_isSame 193 = .ok (.if_icmp .ne 69, 3) := by decide +kernel
theorem dX2_isSame_196 : decode cX2_isSame 196 = .ok (.aload_n 1, 1) := by decide +kernel
theorem dX2_isSame_197 : decode cX2_isSame 197 = .ok (.invokevirtual 86, 3) := by decide +kernel
theorem dX2_isSame_200 : decode cX2_isSame 200 = .ok (.aload_n 0, 1) := by decide +kernel
theorem dX2_isSame_201 : decode cX2_isSame 201 = .ok (.getfield 15, 3) := by decide +kernel
theorem dX2_isSame_204 : decode cX2_isSame 204 = .ok (.if_icmp .ne 58, 3) := by decide +kernel
theorem dX2_isSame_207 : decode cX2_isSame 207 = .ok (.aload_n 1, 1) := by decide +kernel
theorem dX2_isSame_208 : decode cX2_isSame 208 = .ok (.invokevirtual 88, 3) := by decide +kernel
theorem dX2_isSame_211 : decode cX2_isSame 211 = .ok (.aload_n 0, 1) := by decide +kernel
theorem dX2_isSame_212 : decode cX2_isSame 212 = .ok (.invokevirtual 91, 3) := by decide +kernel
theorem dX2_isSame_215 : decode cX2_isSame 215 = .ok (.if_icmp .ne 47, 3) := by decide +kernel
theorem dX2_isSame_218 : decode cX2_isSame 218 = .ok (.aload_n 1, 1) := by decide +kernel
theorem dX2_isSame_219 : decode cX2_isSame 219 = .ok (.invokevirtual 92, 3) := by decide +kernel
theorem dX2_isSame_222 : decode cX2_isSame 222 = .ok (.aload_n 0, 1) := by decide +kernel
theorem dX2_isSame_223 : decode cX2_isSame 223 = .ok (.invokevirtual 95, 3) := by decide +kernel
theorem dX2_isSame_226 : decode cX2_isSame 226 = .ok (.if_icmp .ne 36, 3) := by decide +kernel
theorem dX2_isSame_229 : decode cX2_isSame 229 = .ok (.aload_n 1, 1) := by decide +kernel
theorem dX2_isSame_230 : decode cX2_isSame 230 = .ok (.invokevirtual 96, 3) := by decide +kernel
theorem dX2_isSame_233 : decode cX2_isSame 233 = .ok (.aload_n 0, 1) := by decide +kernel
theorem dX2_isSame_234 : decode cX2_isSame 234 = .ok (.getfield 9, 3) := by decide +kernel
theorem dX2_isSame_237 : decode cX2_isSame 237 = .ok (.arraylength, 1) := by decide +kernel
theorem dX2_isSame_238 : decode cX2_isSame 238 = .ok (.ifCond .ne 7, 3) := by decide +kernel
theorem dX2_isSame_241 : decode cX2_isSame 241 = .ok (.dconst 0, 1) := by decide +kernel
theorem dX2_isSame_242 : decode cX2_isSame 242 = .ok (.goto 12, 3) := by decide +kernel
theorem dX2_isSame_245 : decode cX2_isSame 245 = .ok (.iload_n 3, 1) := by decide +kernel
theorem dX2_isSame_246 : decode cX2_isSame 246 = .ok (.i2d, 1) := by decide +kernel
theorem dX2_isSame_247 : decode cX2_isSame 247 = .ok (.aload_n 0, 1) := by decide +kernel
theorem dX2_isSame_248 : decode cX2_isSame 248 = .ok (.getfield 9, 3) := by decide +kernel
theorem dX2_isSame_251 : decode cX2_isSame 251 = .ok (.arraylength, 1) := by decide +kernel
theorem dX2_isSame_252 : decode cX2_isSame 252 = .ok (.i2d, 1) := by decide +kernel
theorem dX2_isSame_253 : decode cX2_isSame 253 = .ok (.ddiv, 1) := by decide +kernel
theorem dX2_isSame_254 : decode cX2_isSame 254 = .ok (.dcmp .l, 1) := by decide +kernel
theorem dX2_isSame_255 : decode cX2_isSame 255 = .ok (.ifCond .ne 7, 3) := by decide +kernel
theorem dX2_isSame_258 : decode cX2_isSame 258 = .ok (.iconst 1, 1) := by decide +kernel
theorem dX2_isSame_259 : decode cX2_isSame 259 = .ok (.goto 4, 3) := by decide +kernel
theorem dX2_isSame_262 : decode cX2_isSame 262 = .ok (.iconst 0, 1) := by decide +kernel
theorem dX2_isSame_263 : decode cX2_isSame 263 = .ok (.ireturn, 1) := by decide +kernel
theorem dJ9_max_7cf53_0 : decode cJ9_max_7cf53 0 = .ok (.iload_n 0, 1) := by decide +kernel
theorem dJ9_max_7cf53_1 : decode cJ9_max_7cf53 1 = .ok (.iload_n 1, 1) := by decide +kernel
theorem dJ9_max_7cf53_2 : decode cJ9_max_7cf53 2 = .ok (.if_icmp .lt 7, 3) := by decide +kernel
theorem dJ9_max_7cf53_5 : decode cJ9_max_7cf53 5 = .ok (.iload_n 0, 1) := by decide +kernel
theorem dJ9_max_7cf53_6 : decode cJ9_max_7cf53 6 = .ok (.goto 4, 3) := by decide +kernel
theorem dJ9_max_7cf53_9 : decode cJ9_max_7cf53 9 = .ok (.iload_n 1, 1) := by decide +kernel
theorem dJ9_max_7cf53_10 : decode cJ9_max_7cf53 10 = .ok (.ireturn, 1) := by decide +kernel
theorem dJ9_min_7cf53_0 : decode cJ9_min_7cf53 0 = .ok (.iload_n 0, 1) := by decide +kernel
theorem dJ9_min_7cf53_1 : decode cJ9_min_7cf53 1 = .ok (.iload_n 1, 1) := by decide +kernel
theorem dJ9_min_7cf53_2 : decode cJ9_min_7cf53 2 = .ok (.if_icmp .gt 7, 3) := by decide +kernel
theorem dJ9_min_7cf53_5 : decode cJ9_min_7cf53 5 = .ok (.iload_n 0, 1) := by decide +kernel
theorem dJ9_min_7cf53_6 : decode cJ9_min_7cf53 6 = .ok (.goto 4, 3) := by decide +kernel
theorem dJ9_min_7cf53_9 : decode cJ9_min_7cf53 9 = .ok (.iload_n 1, 1) := by decide +kernel
theorem dJ9_min_7cf53_10 : decode cJ9_min_7cf53 10 = .ok (.ireturn, 1) := by decide +kernel
theorem dJxa1e45_init_da8c8_0 : decode cJxa1e45_init_da8c8 0 = .ok (.aload_n 0, 1) := by decide +kernel
theorem dJxa1e45_init_da8c8_1 : decode cJxa1e45_init_da8c8 1 = .ok (.invokespecial 1, 3) := by decide +kernel
theorem dJxa1e45_init_da8c8_4 : decode cJxa1e45_init_da8c8 4 = .ok (.return_, 1) := by decide +kernel
set_option maxRecDepth 20000 in
theorem ggJxc12de_init_da8c8_Jxa1e45_init_da8c8 : GoodIn wsJxc12de_init_da8c8 wsJxa1e45_init_da8c8 := goodIn_r _ [5, 6, 7, 8] (by decide +kernel) (by decide +kernel)
set_option maxRecDepth 20000 in
theorem gJxc12de_init_da8c8_Jxa1e45_init_da8c8 : GoodIn wsJxc12de_init_da8c8 (wsJxa1e45_init_da8c8) := ggJxc12de_init_da8c8_Jxa1e45_init_da8c8
theorem dJxc12de_init_da8c8_0 : decode cJxc12de_init_da8c8 0 = .ok (.aload_n 0, 1) := by decide +kernel
theorem dJxc12de_init_da8c8_1 : decode cJxc12de_init_da8c8 1 = .ok (.invokespecial 1, 3) := by decide +kernel
theorem dJxc12de_init_da8c8_4 : decode cJxc12de_init_da8c8 4 = .ok (.aload_n 0, 1) := by decide +kernel
theorem dJxc12de_init_da8c8_5 : decode cJxc12de_init_da8c8 5 = .ok (.iconst 0, 1) := by decide +kernel
theorem dJxc12de_init_da8c8_6 : decode cJxc12de_init_da8c8 6 = .ok (.putfield 7, 3) := by decide +kernel
theorem dJxc12de_init_da8c8_9 : decode cJxc12de_init_da8c8 9 = .ok (.return_, 1) := by decide +kernel
set_option maxRecDepth 20000 in
theorem ggJx4a65c_init_da8c8_Jxc12de_init_da8c8 : GoodIn wsJx4a65c_init_da8c8 wsJxc12de_init_da8c8 := goodIn_r _ [6, 7, 8, 9, 10, 11, 12, 13, 14, 15, 16, 17] (by decide +kernel) (by decide +kernel)
set_option maxRecDepth 20000 in
theorem gJx4a65c_init_da8c8_Jxc12de_init_da8c8 : GoodIn wsJx4a65c_init_da8c8 (wsJxc12de_init_da8c8) := ggJx4a65c_init_da8c8_Jxc12de_init_da8c8
theorem dJx4a65c_init_da8c8_0 : decode cJx4a65c_init_da8c8 0 = .ok (.aload_n 0, 1) := by decide +kernel
theorem dJx4a65c_init_da8c8_1 : decode cJx4a65c_init_da8c8 1 = .ok (.invokespecial 1, 3) := by decide +kernel
theorem dJx4a65c_init_da8c8_4 : decode cJx4a65c_init_da8c8 4 = .ok (.aload_n 0, 1) := by decide +kernel
theorem dJx4a65c_init_da8c8_5 : decode cJx4a65c_init_da8c8 5 = .ok (.getstatic 39, 3) := by decide +kernel
theorem dJx4a65c_init_da8c8_8 : decode cJx4a65c_init_da8c8 8 = .ok (.putfield 9, 3) := by decide +kernel
theorem dJx4a65c_init_da8c8_11 : decode cJx4a65c_init_da8c8 11 = .ok (.return_, 1) := by decide +kernel
set_option maxRecDepth 20000 in
theorem ggJx4a65c_grow_92f84_J8_newLength_cabcc : GoodIn wsJx4a65c_grow_92f84 wsJ8_newLength_cabcc := goodIn_r _ [11, 12, 4, 5, 6, 13, 14, 15, 10, 16] (by decide +kernel) (by decide +kernel)
set_option maxRecDepth 20000 in
theorem gJx4a65c_grow_92f84_J8_newLength_cabcc : GoodIn wsJx4a65c_grow_92f84 (va_wsS RJx4a65c 73 yJ8_newLength_cabcc wsJ8_newLength_cabcc) := goodIn_app (goodIn_of _ (by decide +kernel)) ggJx4a65c_grow_92f84_J8_newLength_cabcc
set_option maxRecDepth 20000 in
theorem ggJx4a65c_grow_92f84_J7_copyOf_1904c : GoodIn wsJx4a65c_grow_92f84 wsJ7_copyOf_1904c := goodIn_r _ [20, 21, 22, 23, 24, 25, 26, 19, 27, 28, 29, 30, 31, 5, 32, 33, 34, 35, 36] (by decide +kernel) (by decide +kernel)
set_option maxRecDepth 20000 in
theorem gJx4a65c_grow_92f84_J7_copyOf_1904c : GoodIn wsJx4a65c_grow_92f84 (va_wsS RJx4a65c 66 yJ7_copyOf_1904c wsJ7_copyOf_1904c) := goodIn_app (goodIn_of _ (by decide +kernel)) ggJx4a65c_grow_92f84_J7_copyOf_1904c
theorem dJx4a65c_grow_92f84_0 : decode cJx4a65c_grow_92f84 0 = .ok (.aload_n 0, 1) := by decide +kernel
theorem dJx4a65c_grow_92f84_1 : decode cJx4a65c_grow_92f84 1 = .ok (.getfield 9, 3) := by decide +kernel
theorem dJx4a65c_grow_92f84_4 : decode cJx4a65c_grow_92f84 4 = .ok (.arraylength, 1) := by decide +kernel
theorem dJx4a65c_grow_92f84_5 : decode cJx4a65c_grow_92f84 5 = .ok (.istore_n 2, 1) := by decide +kernel
theorem dJx4a65c_grow_92f84_6 : decode cJx4a65c_grow_92f84 6 = .ok (.iload_n 2, 1) := by decide +kernel
theorem dJx4a65c_grow_92f84_7 : decode cJx4a65c_grow_92f84 7 = .ok (.ifCond .gt 13, 3) := by decide +kernel
theorem dJx4a65c_grow_92f84_10 : decode cJx4a65c_grow_92f84 10 = .ok (.aload_n 0, 1) := by decide +kernel
theorem dJx4a65c_grow_92f84_11 : decode cJx4a65c_grow_92f84 11 = .ok (.getfield 9, 3) := by decide +kernel
theorem dJx4a65c_grow_92f84_14 : decode cJx4a65c_grow_92f84 14 = .ok (.getstatic 39, 3) := by decide +kernel
theorem dJx4a65c_grow_92f84_17 : decode cJx4a65c_grow_92f84 17 = .ok (.if_acmp .eq 28, 3) := by decide +kernel
theorem dJx4a65c_grow_92f84_20 : decode cJx4a65c_grow_92f84 20 = .ok (.iload_n 2, 1) := by decide +kernel
theorem dJx4a65c_grow_92f84_21 : decode cJx4a65c_grow_92f84 21 = .ok (.iload_n 1, 1) := by decide +kernel
theorem dJx4a65c_grow_92f84_22 : decode cJx4a65c_grow_92f84 22 = .ok (.iload_n 2, 1) := by decide +kernel
theorem dJx4a65c_grow_92f84_23 : decode cJx4a65c_grow_92f84 23 = .ok (.isub, 1) := by decide +kernel
theorem dJx4a65c_grow_92f84_24 : decode cJx4a65c_grow_92f84 24 = .ok (.iload_n 2, 1) := by decide +kernel
theorem dJx4a65c_grow_92f84_25 : decode cJx4a65c_grow_92f84 25 = .ok (.iconst 1, 1) := by decide +kernel
theorem dJx4a65c_grow_92f84_26 : decode cJx4a65c_grow_92f84 26 = .ok (.ishr, 1) := by decide +kernel
theorem dJx4a65c_grow_92f84_27 : decode cJx4a65c_grow_92f84 27 = .ok (.invokestatic 73, 3) := by decide +kernel
theorem dJx4a65c_grow_92f84_30 : decode cJx4a65c_grow_92f84 30 = .ok (.istore_n 3, 1) := by decide +kernel
theorem dJx4a65c_grow_92f84_31 : decode cJx4a65c_grow_92f84 31 = .ok (.aload_n 0, 1) := by decide +kernel
theorem dJx4a65c_grow_92f84_32 : decode cJx4a65c_grow_92f84 32 = .ok (.aload_n 0, 1) := by decide +kernel
theorem dJx4a65c_grow_92f84_33 : decode cJx4a65c_grow_92f84 33 = .ok (.getfield 9, 3) := by decide +kernel
theorem dJx4a65c_grow_92f84_36 : decode cJx4a65c_grow_92f84 36 = .ok (.iload_n 3, 1) := by decide +kernel
theorem dJx4a65c_grow_92f84_37 : decode cJx4a65c_grow_92f84 37 = .ok (.invokestatic 66, 3) := by decide +kernel
theorem dJx4a65c_grow_92f84_40 : decode cJx4a65c_grow_92f84 40 = .ok (.dup_x1, 1) := by decide +kernel
theorem dJx4a65c_grow_92f84_41 : decode cJx4a65c_grow_92f84 41 = .ok (.putfield 9, 3) := by decide +kernel
theorem dJx4a65c_grow_92f84_44 : decode cJx4a65c_grow_92f84 44 = .ok (.areturn, 1) := by decide +kernel
theorem dJx4a65c_grow_92f84_45 : decode cJx4a65c_grow_92f84 45 = .ok (.aload_n 0, 1) := by decide +kernel
theorem dJx4a65c_grow_92f84_46 : decode cJx4a65c_grow_92f84 46 = .ok (.bipush 10, 2) := by decide +kernel
theorem dJx4a65c_grow_92f84_48 : decode cJx4a65c_grow_92f84 48 = .ok (.iload_n 1, 1) := by decide +kernel
theorem dJx4a65c_grow_92f84_49 : decode cJx4a65c_grow_92f84 49 = .ok (.invokestatic 79, 3) := by decide +kernel
theorem dJx4a65c_grow_92f84_52 : decode cJx4a65c_grow_92f84 52 = .ok (.anewarray 7, 3) := by decide +kernel
theorem dJx4a65c_grow_92f84_55 : decode cJx4a65c_grow_92f84 55 = .ok (.dup_x1, 1) := by decide +kernel
theorem dJx4a65c_grow_92f84_56 : decode cJx4a65c_grow_92f84 56 = .ok (.putfield 9, 3) := by decide +kernel
theorem dJx4a65c_grow_92f84_59 : decode cJx4a65c_grow_92f84 59 = .ok (.areturn, 1) := by decide +kernel
set_option maxRecDepth 20000 in
theorem ggJx4a65c_grow_d5877_Jx4a65c_grow_92f84 : GoodIn wsJx4a65c_grow_d5877 wsJx4a65c_grow_92f84 := goodIn_r _ [6, 7, 8, 9, 10, 11, 12, 13, 14, 15, 16, 17, 18, 19, 20, 21, 22, 23, 24, 25, 26, 27, 28, 29, 30, 31, 32, 33, 34, 35, 36, 37, 38, 39, 40, 41, 42, 43, 44, 45] (by decide +kernel) (by decide +kernel)
set_option maxRecDepth 20000 in
theorem gJx4a65c_grow_d5877_Jx4a65c_grow_92f84 : GoodIn wsJx4a65c_grow_d5877 (wsV RJx4a65c 69 RJx4a65c yJx4a65c_grow_92f84 wsJx4a65c_grow_92f84) := goodIn_app (goodIn_of _ (by decide +kernel)) ggJx4a65c_grow_d5877_Jx4a65c_grow_92f84
theorem dJx4a65c_grow_d5877_0 : decode cJx4a65c_grow_d5877 0 = .ok (.aload_n 0, 1) := by decide +kernel
theorem dJx4a65c_grow_d5877_1 : decode cJx4a65c_grow_d5877 1 = .ok (.aload_n 0, 1) := by decide +kernel
theorem dJx4a65c_grow_d5877_2 : decode cJx4a65c_grow_d5877 2 = .ok (.getfield 48, 3) := by decide +kernel
theorem dJx4a65c_grow_d5877_5 : decode cJx4a65c_grow_d5877 5 = .ok (.iconst 1, 1) := by decide +kernel
theorem dJx4a65c_grow_d5877_6 : decode cJx4a65c_grow_d5877 6 = .ok (.iadd, 1) := by decide +kernel
theorem dJx4a65c_grow_d5877_7 : decode cJx4a65c_grow_d5877 7 = .ok (.invokevirtual 69, 3) := by decide +kernel
theorem dJx4a65c_grow_d5877_10 : decode cJx4a65c_grow_d5877 10 = .ok (.areturn, 1) := by decide +kernel
theorem dJx4a65c_size_8abf5_0 : decode cJx4a65c_size_8abf5 0 = .ok (.aload_n 0, 1) := by decide +kernel
theorem dJx4a65c_size_8abf5_1 : decode cJx4a65c_size_8abf5 1 = .ok (.getfield 48, 3) := by decide +kernel
theorem dJx4a65c_size_8abf5_4 : decode cJx4a65c_size_8abf5 4 = .ok (.ireturn, 1) := by decide +kernel
theorem dJx4a65c_elementData_915e3_0 : decode cJx4a65c_elementData_915e3 0 = .ok (.aload_n 0, 1) := by decide +kernel
theorem dJx4a65c_elementData_915e3_1 : decode cJx4a65c_elementData_915e3 1 = .ok (.getfield 9, 3) := by decide +kernel
theorem dJx4a65c_elementData_915e3_4 : decode cJx4a65c_elementData_915e3 4 = .ok (.iload_n 1, 1) := by decide +kernel
theorem dJx4a65c_elementData_915e3_5 : decode cJx4a65c_elementData_915e3 5 = .ok (.aaload, 1) := by decide +kernel
theorem dJx4a65c_elementData_915e3_6 : decode cJx4a65c_elementData_915e3 6 = .ok (.areturn, 1) := by decide +kernel
set_option maxRecDepth 20000 in
theorem ggJx4a65c_get_915e3_J15_checkIndex_7cf53 : GoodIn wsJx4a65c_get_915e3 wsJ15_checkIndex_7cf53 := goodIn_r _ [5, 6, 7, 8, 9] (by decide +kernel) (by decide +kernel)
set_option maxRecDepth 20000 in
theorem gJx4a65c_get_915e3_J15_checkIndex_7cf53 : GoodIn wsJx4a65c_get_915e3 (va_wsS RJx4a65c 118 yJ15_checkIndex_7cf53 wsJ15_checkIndex_7cf53) := goodIn_app (goodIn_of _ (by decide +kernel)) ggJx4a65c_get_915e3_J15_checkIndex_7cf53
set_option maxRecDepth 20000 in
theorem ggJx4a65c_get_915e3_Jx4a65c_elementData_915e3 : GoodIn wsJx4a65c_get_915e3 wsJx4a65c_elementData_915e3 := goodIn_r _ [14, 15, 16, 17, 18] (by decide +kernel) (by decide +kernel)
set_option maxRecDepth 20000 in
theorem gJx4a65c_get_915e3_Jx4a65c_elementData_915e3 : GoodIn wsJx4a65c_get_915e3 (wsV RJx4a65c 123 RJx4a65c yJx4a65c_elementData_915e3 wsJx4a65c_elementData_915e3) := goodIn_app (goodIn_of _ (by decide +kernel)) ggJx4a65c_get_915e3_Jx4a65c_elementData_915e3
theorem dJx4a65c_get_915e3_0 : decode cJx4a65c_get_915e3 0 = .ok (.iload_n 1, 1) := by decide +kernel
theorem dJx4a65c_get_915e3_1 : decode cJx4a65c_get_915e3 1 = .ok (.aload_n 0, 1) := by decide +kernel
theorem dJx4a65c_get_915e3_2 : decode cJx4a65c_get_915e3 2 = .ok (.getfield 48, 3) := by decide +kernel
theorem dJx4a65c_get_915e3_5 : decode cJx4a65c_get_915e3 5 = .ok (.invokestatic 118, 3) := by decide +kernel
theorem dJx4a65c_get_915e3_8 : decode cJx4a65c_get_915e3 8 = .ok (.pop, 1) := by decide +kernel
theorem dJx4a65c_get_915e3_9 : decode cJx4a65c_get_915e3 9 = .ok (.aload_n 0, 1) := by decide +kernel
theorem dJx4a65c_get_915e3_10 : decode cJx4a65c_get_915e3 10 = .ok (.iload_n 1, 1) := by decide +kernel
theorem dJx4a65c_get_915e3_11 : decode cJx4a65c_get_915e3 11 = .ok (.invokevirtual 123, 3) := by decide +kernel
theorem dJx4a65c_get_915e3_14 : decode cJx4a65c_get_915e3 14 = .ok (.areturn, 1) := by decide +kernel
set_option maxRecDepth 20000 in
theorem ggJx4a65c_add_72be8_Jx4a65c_grow_d5877 : GoodIn wsJx4a65c_add_72be8 wsJx4a65c_grow_d5877 := goodIn_r _ [6, 1, 7, 8, 9, 5, 10, 11, 12, 13, 14, 15, 16, 17, 18, 19, 20, 21, 22, 23, 24, 25, 26, 27, 28, 29, 30, 31, 32, 33, 34, 35, 36, 37, 38, 39, 40, 41, 42, 43, 44, 45, 46, 47, 48, 49] (by decide +kernel) (by decide +kernel)
set_option maxRecDepth 20000 in
theorem gJx4a65c_add_72be8_Jx4a65c_grow_d5877 : GoodIn wsJx4a65c_add_72be8 (wsV RJx4a65c 129 RJx4a65c yJx4a65c_grow_d5877 wsJx4a65c_grow_d5877) := goodIn_app (goodIn_of _ (by decide +kernel)) ggJx4a65c_add_72be8_Jx4a65c_grow_d5877
theorem dJx4a65c_add_72be8_0 : decode cJx4a65c_add_72be8 0 = .ok (.iload_n 3, 1) := by decide +kernel
theorem dJx4a65c_add_72be8_1 : decode cJx4a65c_add_72be8 1 = .ok (.aload_n 2, 1) := by decide +kernel
theorem dJx4a65c_add_72be8_2 : decode cJx4a65c_add_72be8 2 = .ok (.arraylength, 1) := by decide +kernel
theorem dJx4a65c_add_72be8_3 : decode cJx4a65c_add_72be8 3 = .ok (.if_icmp .ne 8, 3) := by decide +kernel
theorem dJx4a65c_add_72be8_6 : decode cJx4a65c_add_72be8 6 = .ok (.aload_n 0, 1) := by decide +kernel
theorem dJx4a65c_add_72be8_7 : decode cJx4a65c_add_72be8 7 = .ok (.invokevirtual 129, 3) := by decide +kernel
theorem dJx4a65c_add_72be8_10 : decode cJx4a65c_add_72be8 10 = .ok (.astore_n 2, 1) := by decide +kernel
theorem dJx4a65c_add_72be8_11 : decode cJx4a65c_add_72be8 11 = .ok (.aload_n 2, 1) := by decide +kernel
theorem dJx4a65c_add_72be8_12 : decode cJx4a65c_add_72be8 12 = .ok (.iload_n 3, 1) := by decide +kernel
theorem dJx4a65c_add_72be8_13 : decode cJx4a65c_add_72be8 13 = .ok (.aload_n 1, 1) := by decide +kernel
theorem dJx4a65c_add_72be8_14 : decode cJx4a65c_add_72be8 14 = .ok (.aastore, 1) := by decide +kernel
theorem dJx4a65c_add_72be8_15 : decode cJx4a65c_add_72be8 15 = .ok (.aload_n 0, 1) := by decide +kernel
theorem dJx4a65c_add_72be8_16 : decode cJx4a65c_add_72be8 16 = .ok (.iload_n 3, 1) := by decide +kernel
theorem dJx4a65c_add_72be8_17 : decode cJx4a65c_add_72be8 17 = .ok (.iconst 1, 1) := by decide +kernel
theorem dJx4a65c_add_72be8_18 : decode cJx4a65c_add_72be8 18 = .ok (.iadd, 1) := by decide +kernel
theorem dJx4a65c_add_72be8_19 : decode cJx4a65c_add_72be8 19 = .ok (.putfield 48, 3) := by decide +kernel
theorem dJx4a65c_add_72be8_22 : decode cJx4a65c_add_72be8 22 = .ok (.return_, 1) := by decide +kernel
set_option maxRecDepth 20000 in
theorem ggJx4a65c_add_9ea2d_Jx4a65c_add_72be8 : GoodIn wsJx4a65c_add_9ea2d wsJx4a65c_add_72be8 := goodIn_r _ [9, 4, 10, 11, 12, 8, 13, 14, 15, 16, 17, 3, 18, 19, 20, 21, 22, 23, 24, 25, 26, 27, 28, 29, 30, 31, 32, 33, 34, 35, 36, 37, 38, 39, 40, 41, 42, 43, 44, 45, 46, 47, 48, 49, 50, 51, 52, 53, 54, 55] (by decide +kernel) (by decide +kernel)
set_option maxRecDepth 20000 in
theorem gJx4a65c_add_9ea2d_Jx4a65c_add_72be8 : GoodIn wsJx4a65c_add_9ea2d (wsV RJx4a65c 131 RJx4a65c yJx4a65c_add_72be8 wsJx4a65c_add_72be8) := goodIn_app (goodIn_of _ (by decide +kernel)) ggJx4a65c_add_9ea2d_Jx4a65c_add_72be8
theorem dJx4a65c_add_9ea2d_0 : decode cJx4a65c_add_9ea2d 0 = .ok (.aload_n 0, 1) := by decide +kernel
theorem dJx4a65c_add_9ea2d_1 : decode cJx4a65c_add_9ea2d 1 = .ok (.dup, 1) := by decide +kernel
theorem dJx4a65c_add_9ea2d_2 : decode cJx4a65c_add_9ea2d 2 = .ok (.getfield 63, 3) := by decide +kernel
theorem dJx4a65c_add_9ea2d_5 : decode cJx4a65c_add_9ea2d 5 = .ok (.iconst 1, 1) := by decide +kernel
theorem dJx4a65c_add_9ea2d_6 : decode cJx4a65c_add_9ea2d 6 = .ok (.iadd, 1) := by decide +kernel
theorem dJx4a65c_add_9ea2d_7 : decode cJx4a65c_add_9ea2d 7 = .ok (.putfield 63, 3) := by decide +kernel
theorem dJx4a65c_add_9ea2d_10 : decode cJx4a65c_add_9ea2d 10 = .ok (.aload_n 0, 1) := by decide +kernel
theorem dJx4a65c_add_9ea2d_11 : decode cJx4a65c_add_9ea2d 11 = .ok (.aload_n 1, 1) := by decide +kernel
theorem dJx4a65c_add_9ea2d_12 : decode cJx4a65c_add_9ea2d 12 = .ok (.aload_n 0, 1) := by decide +kernel
theorem dJx4a65c_add_9ea2d_13 : decode cJx4a65c_add_9ea2d 13 = .ok (.getfield 9, 3) := by decide +kernel
theorem dJx4a65c_add_9ea2d_16 : decode cJx4a65c_add_9ea2d 16 = .ok (.aload_n 0, 1) := by decide +kernel
theorem dJx4a65c_add_9ea2d_17 : decode cJx4a65c_add_9ea2d 17 = .ok (.getfield 48, 3) := by decide +kernel
theorem dJx4a65c_add_9ea2d_20 : decode cJx4a65c_add_9ea2d 20 = .ok (.invokevirtual 131, 3) := by decide +kernel
theorem dJx4a65c_add_9ea2d_23 : decode cJx4a65c_add_9ea2d 23 = .ok (.iconst 1, 1) := by decide +kernel
theorem dJx4a65c_add_9ea2d_24 : decode cJx4a65c_add_9ea2d 24 = .ok (.ireturn, 1) := by decide +kernel
set_option maxRecDepth 20000 in
theorem ggJ7_copyOf_1904c_J7_copyOf_6403c : GoodIn wsJ7_copyOf_1904c wsJ7_copyOf_6403c := goodIn_r _ [8, 9, 10, 11, 12, 13, 14, 15, 16, 17, 18] (by decide +kernel) (by decide +kernel)
set_option maxRecDepth 20000 in
theorem gJ7_copyOf_1904c_J7_copyOf_6403c : GoodIn wsJ7_copyOf_1904c (va_wsS RJ7 300 yJ7_copyOf_6403c wsJ7_copyOf_6403c) := goodIn_app (goodIn_of _ (by decide +kernel)) ggJ7_copyOf_1904c_J7_copyOf_6403c
theorem dJ7_copyOf_1904c_0 : decode cJ7_copyOf_1904c 0 = .ok (.aload_n 0, 1) := by decide +kernel
theorem dJ7_copyOf_1904c_1 : decode cJ7_copyOf_1904c 1 = .ok (.iload_n 1, 1) := by decide +kernel
theorem dJ7_copyOf_1904c_2 : decode cJ7_copyOf_1904c 2 = .ok (.aload_n 0, 1) := by decide +kernel
theorem dJ7_copyOf_1904c_3 : decode cJ7_copyOf_1904c 3 = .ok (.invokevirtual 86, 3) := by decide +kernel
theorem dJ7_copyOf_1904c_6 : decode cJ7_copyOf_1904c 6 = .ok (.invokestatic 300, 3) := by decide +kernel
theorem dJ7_copyOf_1904c_9 : decode cJ7_copyOf_1904c 9 = .ok (.areturn, 1) := by decide +kernel
theorem dJ7_copyOf_6403c_0 : decode cJ7_copyOf_6403c 0 = .ok (.aload_n 2, 1) := by decide +kernel
theorem dJ7_copyOf_6403c_1 : decode cJ7_copyOf_6403c 1 = .ok (.ldc 110, 2) := by decide +kernel
theorem dJ7_copyOf_6403c_3 : decode cJ7_copyOf_6403c 3 = .ok (.if_acmp .ne 10, 3) := by decide +kernel
theorem dJ7_copyOf_6403c_6 : decode cJ7_copyOf_6403c 6 = .ok (.iload_n 1, 1) := by decide +kernel
theorem dJ7_copyOf_6403c_7 : decode cJ7_copyOf_6403c 7 = .ok (.anewarray 2, 3) := by decide +kernel
theorem dJ7_copyOf_6403c_10 : decode cJ7_copyOf_6403c 10 = .ok (.goto 14, 3) := by decide +kernel
theorem dJ7_copyOf_6403c_13 : decode cJ7_copyOf_6403c 13 = .ok (.aload_n 2, 1) := by decide +kernel
theorem dJ7_copyOf_6403c_14 : decode cJ7_copyOf_6403c 14 = .ok (.invokevirtual 90, 3) := by decide +kernel
theorem dJ7_copyOf_6403c_17 : decode cJ7_copyOf_6403c 17 = .ok (.iload_n 1, 1) := by decide +kernel
theorem dJ7_copyOf_6403c_18 : decode cJ7_copyOf_6403c 18 = .ok (.invokestatic 95, 3) := by decide +kernel
theorem dJ7_copyOf_6403c_21 : decode cJ7_copyOf_6403c 21 = .ok (.checkcast 110, 3) := by decide +kernel
theorem dJ7_copyOf_6403c_24 : decode cJ7_copyOf_6403c 24 = .ok (.astore_n 3, 1) := by decide +kernel
theorem dJ7_copyOf_6403c_25 : decode cJ7_copyOf_6403c 25 = .ok (.aload_n 0, 1) := by decide +kernel
theorem dJ7_copyOf_6403c_26 : decode cJ7_copyOf_6403c 26 = .ok (.iconst 0, 1) := by decide +kernel
theorem dJ7_copyOf_6403c_27 : decode cJ7_copyOf_6403c 27 = .ok (.aload_n 3, 1) := by decide +kernel
theorem dJ7_copyOf_6403c_28 : decode cJ7_copyOf_6403c 28 = .ok (.iconst 0, 1) := by decide +kernel
theorem dJ7_copyOf_6403c_29 : decode cJ7_copyOf_6403c 29 = .ok (.aload_n 0, 1) := by decide +kernel
theorem dJ7_copyOf_6403c_30 : decode cJ7_copyOf_6403c 30 = .ok (.arraylength, 1) := by decide +kernel
theorem dJ7_copyOf_6403c_31 : decode cJ7_copyOf_6403c 31 = .ok (.iload_n 1, 1) := by decide +kernel
theorem dJ7_copyOf_6403c_32 : decode cJ7_copyOf_6403c 32 = .ok (.invokestatic 304, 3) := by decide +kernel
theorem dJ7_copyOf_6403c_35 : decode cJ7_copyOf_6403c 35 = .ok (.invokestatic 150, 3) := by decide +kernel
theorem dJ7_copyOf_6403c_38 : decode cJ7_copyOf_6403c 38 = .ok (.aload_n 3, 1) := by decide +kernel
theorem dJ7_copyOf_6403c_39 : decode cJ7_copyOf_6403c 39 = .ok (.areturn, 1) := by decide +kernel
set_option maxRecDepth 20000 in
theorem ggJ15_checkIndex_7cf53_J3_checkIndex_8e157 : GoodIn wsJ15_checkIndex_7cf53 wsJ3_checkIndex_8e157 := goodIn_r _ [4] (by decide +kernel) (by decide +kernel)
set_option maxRecDepth 20000 in
theorem gJ15_checkIndex_7cf53_J3_checkIndex_8e157 : GoodIn wsJ15_checkIndex_7cf53 (va_wsS RJ15 105 yJ3_checkIndex_8e157 wsJ3_checkIndex_8e157) := goodIn_app (goodIn_of _ (by decide +kernel)) ggJ15_checkIndex_7cf53_J3_checkIndex_8e157
theorem dJ15_checkIndex_7cf53_0 : decode cJ15_checkIndex_7cf53 0 = .ok (.iload_n 0, 1) := by decide +kernel
theorem dJ15_checkIndex_7cf53_1 : decode cJ15_checkIndex_7cf53 1 = .ok (.iload_n 1, 1) := by decide +kernel
theorem dJ15_checkIndex_7cf53_2 : decode cJ15_checkIndex_7cf53 2 = .ok (.aconst_null, 1) := by decide +kernel
theorem dJ15_checkIndex_7cf53_3 : decode cJ15_checkIndex_7cf53 3 = .ok (.invokestatic 105, 3) := by decide +kernel
theorem dJ15_checkIndex_7cf53_6 : decode cJ15_checkIndex_7cf53 6 = .ok (.ireturn, 1) := by decide +kernel
set_option maxRecDepth 20000 in
theorem ggJ8_newLength_cabcc_J8_hugeLength_7cf53 : GoodIn wsJ8_newLength_cabcc wsJ8_hugeLength_7cf53 := goodIn_r _ [9, 5] (by decide +kernel) (by decide +kernel)
set_option maxRecDepth 20000 in
theorem gJ8_newLength_cabcc_J8_hugeLength_7cf53 : GoodIn wsJ8_newLength_cabcc (va_wsS RJ8 201 yJ8_hugeLength_7cf53 wsJ8_hugeLength_7cf53) := goodIn_app (goodIn_of _ (by decide +kernel)) ggJ8_newLength_cabcc_J8_hugeLength_7cf53
theorem dJ8_newLength_cabcc_0 : decode cJ8_newLength_cabcc 0 = .ok (.iload_n 0, 1) := by decide +kernel
theorem dJ8_newLength_cabcc_1 : decode cJ8_newLength_cabcc 1 = .ok (.iload_n 1, 1) := by decide +kernel
theorem dJ8_newLength_cabcc_2 : decode cJ8_newLength_cabcc 2 = .ok (.iload_n 2, 1) := by decide +kernel
theorem dJ8_newLength_cabcc_3 : decode cJ8_newLength_cabcc 3 = .ok (.invokestatic 194, 3) := by decide +kernel
theorem dJ8_newLength_cabcc_6 : decode cJ8_newLength_cabcc 6 = .ok (.iadd, 1) := by decide +kernel
theorem dJ8_newLength_cabcc_7 : decode cJ8_newLength_cabcc 7 = .ok (.istore_n 3, 1) := by decide +kernel
theorem dJ8_newLength_cabcc_8 : decode cJ8_newLength_cabcc 8 = .ok (.iconst 0, 1) := by decide +kernel
theorem dJ8_newLength_cabcc_9 : decode cJ8_newLength_cabcc 9 = .ok (.iload_n 3, 1) := by decide +kernel
theorem dJ8_newLength_cabcc_10 : decode cJ8_newLength_cabcc 10 = .ok (.if_icmp .ge 11, 3) := by decide +kernel
theorem dJ8_newLength_cabcc_13 : decode cJ8_newLength_cabcc 13 = .ok (.iload_n 3, 1) := by decide +kernel
theorem dJ8_newLength_cabcc_14 : decode cJ8_newLength_cabcc 14 = .ok (.ldc 200, 2) := by decide +kernel
theorem dJ8_newLength_cabcc_16 : decode cJ8_newLength_cabcc 16 = .ok (.if_icmp .gt 5, 3) := by decide +kernel
theorem dJ8_newLength_cabcc_19 : decode cJ8_newLength_cabcc 19 = .ok (.iload_n 3, 1) := by decide +kernel
theorem dJ8_newLength_cabcc_20 : decode cJ8_newLength_cabcc 20 = .ok (.ireturn, 1) := by decide +kernel
theorem dJ8_newLength_cabcc_21 : decode cJ8_newLength_cabcc 21 = .ok (.iload_n 0, 1) := by decide +kernel
theorem dJ8_newLength_cabcc_22 : decode cJ8_newLength_cabcc 22 = .ok (.iload_n 1, 1) := by decide +kernel
theorem dJ8_newLength_cabcc_23 : decode cJ8_newLength_cabcc 23 = .ok (.invokestatic 201, 3) := by decide +kernel
theorem dJ8_newLength_cabcc_26 : decode cJ8_newLength_cabcc 26 = .ok (.ireturn, 1) := by decide +kernel
theorem dJ8_hugeLength_7cf53_0 : decode cJ8_hugeLength_7cf53 0 = .ok (.iload_n 0, 1) := by decide +kernel
theorem dJ8_hugeLength_7cf53_1 : decode cJ8_hugeLength_7cf53 1 = .ok (.iload_n 1, 1) := by decide +kernel
theorem dJ8_hugeLength_7cf53_2 : decode cJ8_hugeLength_7cf53 2 = .ok (.iadd, 1) := by decide +kernel
theorem dJ8_hugeLength_7cf53_3 : decode cJ8_hugeLength_7cf53 3 = .ok (.istore_n 2, 1) := by decide +kernel
theorem dJ8_hugeLength_7cf53_4 : decode cJ8_hugeLength_7cf53 4 = .ok (.iload_n 2, 1) := by decide +kernel
theorem dJ8_hugeLength_7cf53_5 : decode cJ8_hugeLength_7cf53 5 = .ok (.ifCond .ge 44, 3) := by decide +kernel
theorem dJ8_hugeLength_7cf53_8 : decode cJ8_hugeLength_7cf53 8 = .ok (.new 204, 3) := by decide +kernel
theorem dJ8_hugeLength_7cf53_11 : decode cJ8_hugeLength_7cf53 11 = .ok (.dup, 1) := by decide +kernel
theorem dJ8_hugeLength_7cf53_12 : decode cJ8_hugeLength_7cf53 12 = .ok (.new 89, 3) := by decide +kernel
theorem dJ8_hugeLength_7cf53_15 : decode cJ8_hugeLength_7cf53 15 = .ok (.dup, 1) := by decide +kernel
theorem dJ8_hugeLength_7cf53_16 : decode cJ8_hugeLength_7cf53 16 = .ok (.invokespecial 91, 3) := by decide +kernel
theorem dJ8_hugeLength_7cf53_19 : decode cJ8_hugeLength_7cf53 19 = .ok (.ldc 206, 2) := by decide +kernel
theorem dJ8_hugeLength_7cf53_21 : decode cJ8_hugeLength_7cf53 21 = .ok (.invokevirtual 94, 3) := by decide +kernel
theorem dJ8_hugeLength_7cf53_24 : decode cJ8_hugeLength_7cf53 24 = .ok (.iload_n 0, 1) := by decide +kernel
theorem dJ8_hugeLength_7cf53_25 : decode cJ8_hugeLength_7cf53 25 = .ok (.invokevirtual 98, 3) := by decide +kernel
theorem dJ8_hugeLength_7cf53_28 : decode cJ8_hugeLength_7cf53 28 = .ok (.ldc 208, 2) := by decide +kernel
theorem dJ8_hugeLength_7cf53_30 : decode cJ8_hugeLength_7cf53 30 = .ok (.invokevirtual 94, 3) := by decide +kernel
theorem dJ8_hugeLength_7cf53_33 : decode cJ8_hugeLength_7cf53 33 = .ok (.iload_n 1, 1) := by decide +kernel
theorem dJ8_hugeLength_7cf53_34 : decode cJ8_hugeLength_7cf53 34 = .ok (.invokevirtual 98, 3) := by decide +kernel
theorem dJ8_hugeLength_7cf53_37 : decode cJ8_hugeLength_7cf53 37 = .ok (.ldc 210, 2) := by decide +kernel
theorem dJ8_hugeLength_7cf53_39 : decode cJ8_hugeLength_7cf53 39 = .ok (.invokevirtual 94, 3) := by decide +kernel
theorem dJ8_hugeLength_7cf53_42 : decode cJ8_hugeLength_7cf53 42 = .ok (.invokevirtual 101, 3) := by decide +kernel
theorem dJ8_hugeLength_7cf53_45 : decode cJ8_hugeLength_7cf53 45 = .ok (.invokespecial 212, 3) := by decide +kernel
theorem dJ8_hugeLength_7cf53_48 : decode cJ8_hugeLength_7cf53 48 = .ok (.athrow, 1) := by decide +kernel
theorem dJ8_hugeLength_7cf53_49 : decode cJ8_hugeLength_7cf53 49 = .ok (.iload_n 2, 1) := by decide +kernel
theorem dJ8_hugeLength_7cf53_50 : decode cJ8_hugeLength_7cf53 50 = .ok (.ldc 200, 2) := by decide +kernel
theorem dJ8_hugeLength_7cf53_52 : decode cJ8_hugeLength_7cf53 52 = .ok (.if_icmp .gt 6, 3) := by decide +kernel
theorem dJ8_hugeLength_7cf53_55 : decode cJ8_hugeLength_7cf53 55 = .ok (.ldc 200, 2) := by decide +kernel
theorem dJ8_hugeLength_7cf53_57 : decode cJ8_hugeLength_7cf53 57 = .ok (.ireturn, 1) := by decide +kernel
theorem dJ8_hugeLength_7cf53_58 : decode cJ8_hugeLength_7cf53 58 = .ok (.iload_n 2, 1) := by decide +kernel
theorem dJ8_hugeLength_7cf53_59 : decode cJ8_hugeLength_7cf53 59 = .ok (.ireturn, 1) := by decide +kernel
theorem dJ3_checkIndex_8e157_0 : decode cJ3_checkIndex_8e157 0 = .ok (.iload_n 0, 1) := by decide +kernel
theorem dJ3_checkIndex_8e157_1 : decode cJ3_checkIndex_8e157 1 = .ok (.ifCond .lt 8, 3) := by decide +kernel
theorem dJ3_checkIndex_8e157_4 : decode cJ3_checkIndex_8e157 4 = .ok (.iload_n 0, 1) := by decide +kernel
theorem dJ3_checkIndex_8e157_5 : decode cJ3_checkIndex_8e157 5 = .ok (.iload_n 1, 1) := by decide +kernel
theorem dJ3_checkIndex_8e157_6 : decode cJ3_checkIndex_8e157 6 = .ok (.if_icmp .lt 10, 3) := by decide +kernel
theorem dJ3_checkIndex_8e157_9 : decode cJ3_checkIndex_8e157 9 = .ok (.aload_n 2, 1) := by decide +kernel
theorem dJ3_checkIndex_8e157_10 : decode cJ3_checkIndex_8e157 10 = .ok (.iload_n 0, 1) := by decide +kernel
theorem dJ3_checkIndex_8e157_11 : decode cJ3_checkIndex_8e157 11 = .ok (.iload_n 1, 1) := by decide +kernel
theorem dJ3_checkIndex_8e157_12 : decode cJ3_checkIndex_8e157 12 = .ok (.invokestatic 95, 3) := by decide +kernel
theorem dJ3_checkIndex_8e157_15 : decode cJ3_checkIndex_8e157 15 = .ok (.athrow, 1) := by decide +kernel
theorem dJ3_checkIndex_8e157_16 : decode cJ3_checkIndex_8e157 16 = .ok (.iload_n 0, 1) := by decide +kernel
theorem dJ3_checkIndex_8e157_17 : decode cJ3_checkIndex_8e157 17 = .ok (.ireturn, 1) := by decide +kernel
theorem dL_below_0 : decode cL_below 0 = .ok (.iload_n 0, 1) := by decide +kernel
theorem dL_below_1 : decode cL_below 1 = .ok (.ldc 7, 2) := by decide +kernel
theorem dL_below_3 : decode cL_below 3 = .ok (.iand, 1) := by decide +kernel
theorem dL_below_4 : decode cL_below 4 = .ok (.iload_n 1, 1) := by decide +kernel
theorem dL_below_5 : decode cL_below 5 = .ok (.irem, 1) := by decide +kernel
theorem dL_below_6 : decode cL_below 6 = .ok (.ireturn, 1) := by decide +kernel
theorem dL_cell_0 : decode cL_cell 0 = .ok (.iload_n 1, 1) := by decide +kernel
theorem dL_cell_1 : decode cL_cell 1 = .ok (.aload_n 0, 1) := by decide +kernel
theorem dL_cell_2 : decode cL_cell 2 = .ok (.arraylength, 1) := by decide +kernel
theorem dL_cell_3 : decode cL_cell 3 = .ok (.if_icmp .ge 9, 3) := by decide +kernel
theorem dL_cell_6 : decode cL_cell 6 = .ok (.aload_n 0, 1) := by decide +kernel
theorem dL_cell_7 : decode cL_cell 7 = .ok (.iload_n 1, 1) := by decide +kernel
theorem dL_cell_8 : decode cL_cell 8 = .ok (.iaload, 1) := by decide +kernel
theorem dL_cell_9 : decode cL_cell 9 = .ok (.goto 9, 3) := by decide +kernel
theorem dL_cell_12 : decode cL_cell 12 = .ok (.ldc 8, 2) := by decide +kernel
theorem dL_cell_14 : decode cL_cell 14 = .ok (.iload_n 1, 1) := by decide +kernel
theorem dL_cell_15 : decode cL_cell 15 = .ok (.iconst 3, 1) := by decide +kernel
theorem dL_cell_16 : decode cL_cell 16 = .ok (.iadd, 1) := by decide +kernel
theorem dL_cell_17 : decode cL_cell 17 = .ok (.imul, 1) := by decide +kernel
theorem dL_cell_18 : decode cL_cell 18 = .ok (.ireturn, 1) := by decide +kernel
set_option maxRecDepth 20000 in
theorem ggL_act_L_below : GoodIn wsL_act wsL_below := goodIn_r _ [7, 8] (by decide +kernel) (by decide +kernel)
set_option maxRecDepth 20000 in
theorem gL_act_L_below : GoodIn wsL_act (va_wsS RL 15 yL_below wsL_below) := goodIn_app (goodIn_of _ (by decide +kernel)) ggL_act_L_below
set_option maxRecDepth 20000 in
theorem ggL_act_X2_with : GoodIn wsL_act wsX2_with := goodIn_r _ [12, 13] (by decide +kernel) (by decide +kernel)
set_option maxRecDepth 20000 in
theorem gL_act_X2_with : GoodIn wsL_act (va_wsS RL 21 yX2_with wsX2_with) := goodIn_app (goodIn_of _ (by decide +kernel)) ggL_act_X2_with
set_option maxRecDepth 20000 in
theorem ggL_act_X1_addLamp : GoodIn wsL_act wsX1_addLamp := goodIn_ca (goodIn_ca (goodIn_r _ [18, 19, 20, 21, 22, 23, 24, 25, 26, 17, 27, 28, 29, 30, 31, 32, 33, 34, 35, 36, 37, 38, 39, 40, 41, 42, 43, 44, 45, 46, 47, 48, 49, 50, 51, 52, 53, 54, 55, 56, 57, 58, 59, 60, 61, 62, 63, 64, 65, 66, 67, 68, 69, 70, 71, 72, 73, 74, 75, 76, 77, 78, 79, 80, 81, 82, 83, 84, 85, 86, 87, 88, 89, 90, 91, 92, 93, 94, 95, 96, 97, 98, 99, 100, 101, 102, 103, 104, 201, 202, 203, 204, 205, 206, 207, 208, 209, 210, 211, 212, 213, 214, 215] (by decide +kernel) (by decide +kernel)) (goodIn_sub (fun _ h => List.mem_cons_of_mem _ (List.mem_append_left _ (List.mem_append_left _ (List.mem_append_right _ h)))) (by decide +kernel))) (goodIn_sub (fun _ h => List.mem_cons_of_mem _ (List.mem_append_left _ (List.mem_append_right _ h))) (by decide +kernel))
set_option maxRecDepth 20000 in
theorem gL_act_X1_addLamp : GoodIn wsL_act (wsV RL 25 RX1 yX1_addLamp wsX1_addLamp) := goodIn_app (goodIn_of _ (by decide +kernel)) ggL_act_X1_addLamp
set_option maxRecDepth 20000 in
theorem ggL_act_X1_setShift : GoodIn wsL_act wsX1_setShift := goodIn_ca (goodIn_ca (goodIn_r _ [108, 109, 110, 111, 112, 113, 17, 114, 115, 116, 21, 117, 30, 31, 32, 33, 34, 35, 118, 119, 120, 121, 122, 123, 124, 125, 126, 127, 128, 129, 130, 131, 132, 133, 57, 25, 26, 27, 28, 29, 204, 205, 206, 207, 208, 209, 210, 211, 212, 201, 202, 203, 213, 214, 215] (by decide +kernel) (by decide +kernel)) (goodIn_sub (fun _ h => List.mem_cons_of_mem _ (List.mem_append_right _ h)) (by decide +kernel))) (goodIn_sub (fun _ h => List.mem_cons_of_mem _ (List.mem_append_left _ (List.mem_append_right _ h))) (by decide +kernel))
set_option maxRecDepth 20000 in
theorem gL_act_X1_setShift : GoodIn wsL_act (wsV RL 31 RX1 yX1_setShift wsX1_setShift) := goodIn_app (goodIn_of _ (by decide +kernel)) ggL_act_X1_setShift
set_option maxRecDepth 20000 in
theorem ggL_act_X1_setLength : GoodIn wsL_act wsX1_setLength := goodIn_ca (goodIn_ca (goodIn_r _ [137, 109, 138, 111, 112, 113, 17, 114, 115, 116, 21, 117, 30, 31, 32, 33, 34, 35, 118, 119, 120, 121, 122, 123, 124, 125, 126, 127, 128, 129, 130, 131, 132, 133, 57, 25, 26, 27, 28, 29, 204, 205, 206, 207, 208, 209, 210, 211, 212, 201, 202, 203, 213, 214, 215] (by decide +kernel) (by decide +kernel)) (goodIn_sub (fun _ h => List.mem_cons_of_mem _ (List.mem_append_right _ h)) (by decide +kernel))) (goodIn_sub (fun _ h => List.mem_cons_of_mem _ (List.mem_append_left _ (List.mem_append_right _ h))) (by decide +kernel))
set_option maxRecDepth 20000 in
theorem gL_act_X1_setLength : GoodIn wsL_act (wsV RL 34 RX1 yX1_setLength wsX1_setLength) := goodIn_app (goodIn_of _ (by decide +kernel)) ggL_act_X1_setLength
set_option maxRecDepth 20000 in
theorem ggL_act_X1_swapColours : GoodIn wsL_act wsX1_swapColours := goodIn_ca (goodIn_ca (goodIn_r _ [142, 28, 29, 143, 111, 112, 113, 17, 114, 115, 116, 21, 117, 30, 31, 32, 33, 34, 35, 118, 119, 120, 121, 122, 123, 124, 125, 126, 127, 128, 129, 130, 131, 132, 133, 57, 204, 205, 206, 207, 208, 209, 210, 211, 212, 201, 202, 203, 213, 214, 215] (by decide +kernel) (by decide +kernel)) (goodIn_sub (fun _ h => List.mem_cons_of_mem _ (List.mem_append_left _ (List.mem_append_right _ h))) (by decide +kernel))) (goodIn_sub (fun _ h => List.mem_cons_of_mem _ (List.mem_append_right _ h)) (by decide +kernel))
set_option maxRecDepth 20000 in
theorem gL_act_X1_swapColours : GoodIn wsL_act (wsV RL 37 RX1 yX1_swapColours wsX1_swapColours) := goodIn_app (goodIn_of _ (by decide +kernel)) ggL_act_X1_swapColours
set_option maxRecDepth 20000 in
theorem ggL_act_X1_setLimit : GoodIn wsL_act wsX1_setLimit := goodIn_ca (goodIn_r _ [147, 148, 25, 26, 17, 27, 28, 29, 201, 202, 203] (by decide +kernel) (by decide +kernel)) (goodIn_sub (fun _ h => List.mem_cons_of_mem _ (List.mem_append_left _ (List.mem_append_right _ h))) (by decide +kernel))
set_option maxRecDepth 20000 in
theorem gL_act_X1_setLimit : GoodIn wsL_act (wsV RL 45 RX1 yX1_setLimit wsX1_setLimit) := goodIn_app (goodIn_of _ (by decide +kernel)) ggL_act_X1_setLimit
set_option maxRecDepth 20000 in
theorem ggL_act_X1_pass : GoodIn wsL_act wsX1_pass := goodIn_ca (goodIn_r _ [152, 25, 26, 17, 27, 28, 29, 153, 154, 155, 156, 157, 21, 117, 158, 159, 160, 161, 162, 163, 164, 165, 148, 30, 31, 32, 33, 34, 35, 118, 119, 120, 121, 122, 123, 124, 125, 126, 127, 128, 129, 130, 131, 132, 133, 57, 166, 167, 168, 24, 169, 44, 170, 171, 172, 173, 43, 46, 201, 202, 203, 204, 205, 206, 207, 208, 209, 210, 211, 212, 213, 214, 215] (by decide +kernel) (by decide +kernel)) (goodIn_sub (fun _ h => List.mem_cons_of_mem _ (List.mem_append_left _ (List.mem_append_right _ h))) (by decide +kernel))
set_option maxRecDepth 20000 in
theorem gL_act_X1_pass : GoodIn wsL_act (wsV RL 49 RX1 yX1_pass wsX1_pass) := goodIn_app (goodIn_of _ (by decide +kernel)) ggL_act_X1_pass
set_option maxRecDepth 20000 in
theorem ggL_act_X2_pass_ : GoodIn wsL_act wsX2_pass_ := goodIn_r _ [177, 178, 179, 180, 11, 181, 182, 183, 184, 185, 186, 187, 188, 189, 190, 191, 192, 193, 194, 195, 196, 197, 198, 199, 200] (by decide +kernel) (by decide +kernel)
set_option maxRecDepth 20000 in
theorem gL_act_X2_pass_ : GoodIn wsL_act (wsV RL 52 RX2 yX2_pass_ wsX2_pass_) := goodIn_app (goodIn_of _ (by decide +kernel)) ggL_act_X2_pass_
theorem dL_act_0 : decode cL_act 0 = .ok (.aload_n 1, 1) := by decide +kernel
theorem dL_act_1 : decode cL_act 1 = .ok (.getfield 9, 3) := by decide +kernel
theorem dL_act_4 : decode cL_act 4 = .ok (.arraylength, 1) := by decide +kernel
theorem dL_act_5 : decode cL_act 5 = .ok (.istore_n 3, 1) := by decide +kernel
theorem dL_act_6 : decode cL_act 6 = .ok (.iload_n 3, 1) := by decide +kernel
theorem dL_act_7 : decode cL_act 7 = .ok (.ifCond .eq 12, 3) := by decide +kernel
theorem dL_act_10 : decode cL_act 10 = .ok (.iload_n 2, 1) := by decide +kernel
theorem dL_act_11 : decode cL_act 11 = .ok (.bipush 11, 2) := by decide +kernel
theorem dL_act_13 : decode cL_act 13 = .ok (.invokestatic 15, 3) := by decide +kernel
theorem dL_act_16 : decode cL_act 16 = .ok (.ifCond .ne 143, 3) := by decide +kernel
theorem dL_act_19 : decode cL_act 19 = .ok (.iload_n 3, 1) := by decide +kernel
theorem dL_act_20 : decode cL_act 20 = .ok (.bipush 8, 2) := by decide +kernel
theorem dL_act_22 : decode cL_act 22 = .ok (.if_icmp .ne 5, 3) := by decide +kernel
theorem dL_act_25 : decode cL_act 25 = .ok (.iconst 1, 1) := by decide +kernel
theorem dL_act_26 : decode cL_act 26 = .ok (.ireturn, 1) := by decide +kernel
theorem dL_act_27 : decode cL_act 27 = .ok (.iconst 2, 1) := by decide +kernel
theorem dL_act_28 : decode cL_act 28 = .ok (.iload_n 2, 1) := by decide +kernel
theorem dL_act_29 : decode cL_act 29 = .ok (.iconst 4, 1) := by decide +kernel
theorem dL_act_30 : decode cL_act 30 = .ok (.ishr, 1) := by decide +kernel
theorem dL_act_31 : decode cL_act 31 = .ok (.iload_n 2, 1) := by decide +kernel
theorem dL_act_32 : decode cL_act 32 = .ok (.bipush 9, 2) := by decide +kernel
theorem dL_act_34 : decode cL_act 34 = .ok (.ishr, 1) := by decide +kernel
theorem dL_act_35 : decode cL_act 35 = .ok (.iconst 2, 1) := by decide +kernel
theorem dL_act_36 : decode cL_act 36 = .ok (.invokestatic 15, 3) := by decide +kernel
theorem dL_act_39 : decode cL_act 39 = .ok (.ifCond .ne 8, 3) := by decide +kernel
theorem dL_act_42 : decode cL_act 42 = .ok (.bipush 19, 2) := by decide +kernel
theorem dL_act_44 : decode cL_act 44 = .ok (.goto 4, 3) := by decide +kernel
theorem dL_act_47 : decode cL_act 47 = .ok (.iconst 5, 1) := by decide +kernel
theorem dL_act_48 : decode cL_act 48 = .ok (.invokestatic 15, 3) := by decide +kernel
theorem dL_act_51 : decode cL_act 51 = .ok (.iadd, 1) := by decide +kernel
theorem dL_act_52 : decode cL_act 52 = .ok (.istore 4, 2) := by decide +kernel
theorem dL_act_54 : decode cL_act 54 = .ok (.bipush 7, 2) := by decide +kernel
theorem dL_act_56 : decode cL_act 56 = .ok (.newarray .int, 2) := by decide +kernel
theorem dL_act_58 : decode cL_act 58 = .ok (.dup, 1) := by decide +kernel
theorem dL_act_59 : decode cL_act 59 = .ok (.iconst 0, 1) := by decide +kernel
theorem dL_act_60 : decode cL_act 60 = .ok (.iload_n 2, 1) := by decide +kernel
theorem dL_act_61 : decode cL_act 61 = .ok (.iconst 3, 1) := by decide +kernel
theorem dL_act_62 : decode cL_act 62 = .ok (.ishr, 1) := by decide +kernel
theorem dL_act_63 : decode cL_act 63 = .ok (.bipush 6, 2) := by decide +kernel
theorem dL_act_65 : decode cL_act 65 = .ok (.invokestatic 15, 3) := by decide +kernel
theorem dL_act_68 : decode cL_act 68 = .ok (.iastore, 1) := by decide +kernel
theorem dL_act_69 : decode cL_act 69 = .ok (.dup, 1) := by decide +kernel
theorem dL_act_70 : decode cL_act 70 = .ok (.iconst 1, 1) := by decide +kernel
theorem dL_act_71 : decode cL_act 71 = .ok (.iload 4, 2) := by decide +kernel
theorem dL_act_73 : decode cL_act 73 = .ok (.iastore, 1) := by decide +kernel
theorem dL_act_74 : decode cL_act 74 = .ok (.dup, 1) := by decide +kernel
theorem dL_act_75 : decode cL_act 75 = .ok (.iconst 2, 1) := by decide +kernel
theorem dL_act_76 : decode cL_act 76 = .ok (.iconst 0, 1) := by decide +kernel
theorem dL_act_77 : decode cL_act 77 = .ok (.iastore, 1) := by decide +kernel
theorem dL_act_78 : decode cL_act 78 = .ok (.dup, 1) := by decide +kernel
theorem dL_act_79 : decode cL_act 79 = .ok (.iconst 3, 1) := by decide +kernel
theorem dL_act_80 : decode cL_act 80 = .ok (.iconst 1, 1) := by decide +kernel
theorem dL_act_81 : decode cL_act 81 = .ok (.iload_n 2, 1) := by decide +kernel
theorem dL_act_82 : decode cL_act 82 = .ok (.iconst 5, 1) := by decide +kernel
theorem dL_act_83 : decode cL_act 83 = .ok (.ishr, 1) := by decide +kernel
theorem dL_act_84 : decode cL_act 84 = .ok (.iload 4, 2) := by decide +kernel
theorem dL_act_86 : decode cL_act 86 = .ok (.iconst 1, 1) := by decide +kernel
theorem dL_act_87 : decode cL_act 87 = .ok (.isub, 1) := by decide +kernel
theorem dL_act_88 : decode cL_act 88 = .ok (.invokestatic 15, 3) := by decide +kernel
theorem dL_act_91 : decode cL_act 91 = .ok (.iadd, 1) := by decide +kernel
theorem dL_act_92 : decode cL_act 92 = .ok (.iastore, 1) := by decide +kernel
theorem dL_act_93 : decode cL_act 93 = .ok (.dup, 1) := by decide +kernel
theorem dL_act_94 : decode cL_act 94 = .ok (.iconst 4, 1) := by decide +kernel
theorem dL_act_95 : decode cL_act 95 = .ok (.iconst 1, 1) := by decide +kernel
theorem dL_act_96 : decode cL_act 96 = .ok (.iload_n 2, 1) := by decide +kernel
theorem dL_act_97 : decode cL_act 97 = .ok (.bipush 6, 2) := by decide +kernel
theorem dL_act_99 : decode cL_act 99 = .ok (.ishr, 1) := by decide +kernel
theorem dL_act_100 : decode cL_act 100 = .ok (.bipush 9, 2) := by decide +kernel
theorem dL_act_102 : decode cL_act 102 = .ok (.invokestatic 15, 3) := by decide +kernel
theorem dL_act_105 : decode cL_act 105 = .ok (.iadd, 1) := by decide +kernel
theorem dL_act_106 : decode cL_act 106 = .ok (.iastore, 1) := by decide +kernel
theorem dL_act_107 : decode cL_act 107 = .ok (.dup, 1) := by decide +kernel
theorem dL_act_108 : decode cL_act 108 = .ok (.iconst 5, 1) := by decide +kernel
theorem dL_act_109 : decode cL_act 109 = .ok (.iconst 0, 1) := by decide +kernel
theorem dL_act_110 : decode cL_act 110 = .ok (.iastore, 1) := by decide +kernel
theorem dL_act_111 : decode cL_act 111 = .ok (.dup, 1) := by decide +kernel
theorem dL_act_112 : decode cL_act 112 = .ok (.bipush 6, 2) := by decide +kernel
theorem dL_act_114 : decode cL_act 114 = .ok (.iconst 0, 1) := by decide +kernel
theorem dL_act_115 : decode cL_act 115 = .ok (.iastore, 1) := by decide +kernel
theorem dL_act_116 : decode cL_act 116 = .ok (.astore 5, 2) := by decide +kernel
theorem dL_act_118 : decode cL_act 118 = .ok (.aload_n 1, 1) := by decide +kernel
theorem dL_act_119 : decode cL_act 119 = .ok (.aload_n 1, 1) := by decide +kernel
theorem dL_act_120 : decode cL_act 120 = .ok (.getfield 9, 3) := by decide +kernel
theorem dL_act_123 : decode cL_act 123 = .ok (.aload 5, 2) := by decide +kernel
theorem dL_act_125 : decode cL_act 125 = .ok (.invokestatic 21, 3) := by decide +kernel
theorem dL_act_128 : decode cL_act 128 = .ok (.putfield 9, 3) := by decide +kernel
theorem dL_act_131 : decode cL_act 131 = .ok (.aload_n 0, 1) := by decide +kernel
theorem dL_act_132 : decode cL_act 132 = .ok (.aload 5, 2) := by decide +kernel
theorem dL_act_134 : decode cL_act 134 = .ok (.iconst 0, 1) := by decide +kernel
theorem dL_act_135 : decode cL_act 135 = .ok (.iaload, 1) := by decide +kernel
theorem dL_act_136 : decode cL_act 136 = .ok (.iload 4, 2) := by decide +kernel
theorem dL_act_138 : decode cL_act 138 = .ok (.aload 5, 2) := by decide +kernel
theorem dL_act_140 : decode cL_act 140 = .ok (.iconst 3, 1) := by decide +kernel
theorem dL_act_141 : decode cL_act 141 = .ok (.iaload, 1) := by decide +kernel
theorem dL_act_142 : decode cL_act 142 = .ok (.aload 5, 2) := by decide +kernel
theorem dL_act_144 : decode cL_act 144 = .ok (.iconst 4, 1) := by decide +kernel
theorem dL_act_145 : decode cL_act 145 = .ok (.iaload, 1) := by decide +kernel
theorem dL_act_146 : decode cL_act 146 = .ok (.invokevirtual 25, 3) := by decide +kernel
theorem dL_act_149 : decode cL_act 149 = .ok (.iload_n 3, 1) := by decide +kernel
theorem dL_act_150 : decode cL_act 150 = .ok (.if_icmp .ne 7, 3) := by decide +kernel
theorem dL_act_153 : decode cL_act 153 = .ok (.iconst 1, 1) := by decide +kernel
theorem dL_act_154 : decode cL_act 154 = .ok (.goto 4, 3) := by decide +kernel
theorem dL_act_157 : decode cL_act 157 = .ok (.iconst 0, 1) := by decide +kernel
theorem dL_act_158 : decode cL_act 158 = .ok (.ireturn, 1) := by decide +kernel
theorem dL_act_159 : decode cL_act 159 = .ok (.iload_n 2, 1) := by decide +kernel
theorem dL_act_160 : decode cL_act 160 = .ok (.iconst 3, 1) := by decide +kernel
theorem dL_act_161 : decode cL_act 161 = .ok (.ishr, 1) := by decide +kernel
theorem dL_act_162 : decode cL_act 162 = .ok (.iload_n 3, 1) := by decide +kernel
theorem dL_act_163 : decode cL_act 163 = .ok (.invokestatic 15, 3) := by decide +kernel
theorem dL_act_166 : decode cL_act 166 = .ok (.istore 4, 2) := by decide +kernel
theorem dL_act_168 : decode cL_act 168 = .ok (.aload_n 1, 1) := by decide +kernel
theorem dL_act_169 : decode cL_act 169 = .ok (.getfield 9, 3) := by decide +kernel
theorem dL_act_172 : decode cL_act 172 = .ok (.iload 4, 2) := by decide +kernel
theorem dL_act_174 : decode cL_act 174 = .ok (.aaload, 1) := by decide +kernel
theorem dL_act_175 : decode cL_act 175 = .ok (.astore 5, 2) := by decide +kernel
theorem dL_act_177 : decode cL_act 177 = .ok (.iload_n 2, 1) := by decide +kernel
theorem dL_act_178 : decode cL_act 178 = .ok (.bipush 11, 2) := by decide +kernel
theorem dL_act_180 : decode cL_act 180 = .ok (.invokestatic 15, 3) := by decide +kernel
theorem dL_act_183 : decode cL_act 183 = .ok (.tableswitch 252 1 5 #[33, 33, 74, 119, 199], 33) := by decide +kernel
theorem dL_act_216 : decode cL_act 216 = .ok (.aload 5, 2) := by decide +kernel
theorem dL_act_218 : decode cL_act 218 = .ok (.iconst 2, 1) := by decide +kernel
theorem dL_act_219 : decode cL_act 219 = .ok (.iaload, 1) := by decide +kernel
theorem dL_act_220 : decode cL_act 220 = .ok (.istore 6, 2) := by decide +kernel
theorem dL_act_222 : decode cL_act 222 = .ok (.aload 5, 2) := by decide +kernel
theorem dL_act_224 : decode cL_act 224 = .ok (.iconst 2, 1) := by decide +kernel
theorem dL_act_225 : decode cL_act 225 = .ok (.iload_n 2, 1) := by decide +kernel
theorem dL_act_226 : decode cL_act 226 = .ok (.iconst 5, 1) := by decide +kernel
theorem dL_act_227 : decode cL_act 227 = .ok (.ishr, 1) := by decide +kernel
theorem dL_act_228 : decode cL_act 228 = .ok (.aload 5, 2) := by decide +kernel
theorem dL_act_230 : decode cL_act 230 = .ok (.iconst 1, 1) := by decide +kernel
theorem dL_act_231 : decode cL_act 231 = .ok (.iaload, 1) := by decide +kernel
theorem dL_act_232 : decode cL_act 232 = .ok (.invokestatic 15, 3) := by decide +kernel
theorem dL_act_235 : decode cL_act 235 = .ok (.iastore, 1) := by decide +kernel
theorem dL_act_236 : decode cL_act 236 = .ok (.aload_n 0, 1) := by decide +kernel
theorem dL_act_237 : decode cL_act 237 = .ok (.iload 4, 2) := by decide +kernel
theorem dL_act_239 : decode cL_act 239 = .ok (.aload 5, 2) := by decide +kernel
theorem dL_act_241 : decode cL_act 241 = .ok (.iconst 2, 1) := by decide +kernel
theorem dL_act_242 : decode cL_act 242 = .ok (.iaload, 1) := by decide +kernel
theorem dL_act_243 : decode cL_act 243 = .ok (.invokevirtual 31, 3) := by decide +kernel
theorem dL_act_246 : decode cL_act 246 = .ok (.iload 6, 2) := by decide +kernel
theorem dL_act_248 : decode cL_act 248 = .ok (.if_icmp .ne 7, 3) := by decide +kernel
theorem dL_act_251 : decode cL_act 251 = .ok (.iconst 1, 1) := by decide +kernel
theorem dL_act_252 : decode cL_act 252 = .ok (.goto 4, 3) := by decide +kernel
theorem dL_act_255 : decode cL_act 255 = .ok (.iconst 0, 1) := by decide +kernel
theorem dL_act_256 : decode cL_act 256 = .ok (.ireturn, 1) := by decide +kernel
theorem dL_act_257 : decode cL_act 257 = .ok (.aload 5, 2) := by decide +kernel
theorem dL_act_259 : decode cL_act 259 = .ok (.iconst 3, 1) := by decide +kernel
theorem dL_act_260 : decode cL_act 260 = .ok (.iaload, 1) := by decide +kernel
theorem dL_act_261 : decode cL_act 261 = .ok (.istore 6, 2) := by decide +kernel
theorem dL_act_263 : decode cL_act 263 = .ok (.aload 5, 2) := by decide +kernel
theorem dL_act_265 : decode cL_act 265 = .ok (.iconst 3, 1) := by decide +kernel
theorem dL_act_266 : decode cL_act 266 = .ok (.iconst 1, 1) := by decide +kernel
theorem dL_act_267 : decode cL_act 267 = .ok (.iload_n 2, 1) := by decide +kernel
theorem dL_act_268 : decode cL_act 268 = .ok (.iconst 5, 1) := by decide +kernel
theorem dL_act_269 : decode cL_act 269 = .ok (.ishr, 1) := by decide +kernel
theorem dL_act_270 : decode cL_act 270 = .ok (.aload 5, 2) := by decide +kernel
theorem dL_act_272 : decode cL_act 272 = .ok (.iconst 1, 1) := by decide +kernel
theorem dL_act_273 : decode cL_act 273 = .ok (.iaload, 1) := by decide +kernel
theorem dL_act_274 : decode cL_act 274 = .ok (.iconst 1, 1) := by decide +kernel
theorem dL_act_275 : decode cL_act 275 = .ok (.isub, 1) := by decide +kernel
theorem dL_act_276 : decode cL_act 276 = .ok (.invokestatic 15, 3) := by decide +kernel
theorem dL_act_279 : decode cL_act 279 = .ok (.iadd, 1) := by decide +kernel
theorem dL_act_280 : decode cL_act 280 = .ok (.iastore, 1) := by decide +kernel
theorem dL_act_281 : decode cL_act 281 = .ok (.aload_n 0, 1) := by decide +kernel
theorem dL_act_282 : decode cL_act 282 = .ok (.iload 4, 2) := by decide +kernel
theorem dL_act_284 : decode cL_act 284 = .ok (.aload 5, 2) := by decide +kernel
theorem dL_act_286 : decode cL_act 286 = .ok (.iconst 3, 1) := by decide +kernel
theorem dL_act_287 : decode cL_act 287 = .ok (.iaload, 1) := by decide +kernel
theorem dL_act_288 : decode cL_act 288 = .ok (.invokevirtual 34, 3) := by decide +kernel
theorem dL_act_291 : decode cL_act 291 = .ok (.iload 6, 2) := by decide +kernel
theorem dL_act_293 : decode cL_act 293 = .ok (.if_icmp .ne 7, 3) := by decide +kernel
theorem dL_act_296 : decode cL_act 296 = .ok (.iconst 1, 1) := by decide +kernel
theorem dL_act_297 : decode cL_act 297 = .ok (.goto 4, 3) := by decide +kernel
theorem dL_act_300 : decode cL_act 300 = .ok (.iconst 0, 1) := by decide +kernel
theorem dL_act_301 : decode cL_act 301 = .ok (.ireturn, 1) := by decide +kernel
theorem dL_act_302 : decode cL_act 302 = .ok (.iload_n 2, 1) := by decide +kernel
theorem dL_act_303 : decode cL_act 303 = .ok (.bipush 6, 2) := by decide +kernel
theorem dL_act_305 : decode cL_act 305 = .ok (.ishr, 1) := by decide +kernel
theorem dL_act_306 : decode cL_act 306 = .ok (.iload_n 3, 1) := by decide +kernel
theorem dL_act_307 : decode cL_act 307 = .ok (.invokestatic 15, 3) := by decide +kernel
theorem dL_act_310 : decode cL_act 310 = .ok (.istore 6, 2) := by decide +kernel
theorem dL_act_312 : decode cL_act 312 = .ok (.iload 6, 2) := by decide +kernel
theorem dL_act_314 : decode cL_act 314 = .ok (.iload 4, 2) := by decide +kernel
theorem dL_act_316 : decode cL_act 316 = .ok (.if_icmp .ne 5, 3) := by decide +kernel
theorem dL_act_319 : decode cL_act 319 = .ok (.iconst 1, 1) := by decide +kernel
theorem dL_act_320 : decode cL_act 320 = .ok (.ireturn, 1) := by decide +kernel
theorem dL_act_321 : decode cL_act 321 = .ok (.aload 5, 2) := by decide +kernel
theorem dL_act_323 : decode cL_act 323 = .ok (.iconst 0, 1) := by decide +kernel
theorem dL_act_324 : decode cL_act 324 = .ok (.iaload, 1) := by decide +kernel
theorem dL_act_325 : decode cL_act 325 = .ok (.istore 7, 2) := by decide +kernel
theorem dL_act_327 : decode cL_act 327 = .ok (.aload 5, 2) := by decide +kernel
theorem dL_act_329 : decode cL_act 329 = .ok (.iconst 0, 1) := by decide +kernel
theorem dL_act_330 : decode cL_act 330 = .ok (.aload_n 1, 1) := by decide +kernel
theorem dL_act_331 : decode cL_act 331 = .ok (.getfield 9, 3) := by decide +kernel
theorem dL_act_334 : decode cL_act 334 = .ok (.iload 6, 2) := by decide +kernel
theorem dL_act_336 : decode cL_act 336 = .ok (.aaload, 1) := by decide +kernel
theorem dL_act_337 : decode cL_act 337 = .ok (.iconst 0, 1) := by decide +kernel
theorem dL_act_338 : decode cL_act 338 = .ok (.iaload, 1) := by decide +kernel
theorem dL_act_339 : decode cL_act 339 = .ok (.iastore, 1) := by decide +kernel
theorem dL_act_340 : decode cL_act 340 = .ok (.aload_n 1, 1) := by decide +kernel
theorem dL_act_341 : decode cL_act 341 = .ok (.getfield 9, 3) := by decide +kernel
theorem dL_act_344 : decode cL_act 344 = .ok (.iload 6, 2) := by decide +kernel
theorem dL_act_346 : decode cL_act 346 = .ok (.aaload, 1) := by decide +kernel
theorem dL_act_347 : decode cL_act 347 = .ok (.iconst 0, 1) := by decide +kernel
theorem dL_act_348 : decode cL_act 348 = .ok (.iload 7, 2) := by decide +kernel
theorem dL_act_350 : decode cL_act 350 = .ok (.iastore, 1) := by decide +kernel
theorem dL_act_351 : decode cL_act 351 = .ok (.aload_n 0, 1) := by decide +kernel
theorem dL_act_352 : decode cL_act 352 = .ok (.iload 4, 2) := by decide +kernel
theorem dL_act_354 : decode cL_act 354 = .ok (.iload 6, 2) := by decide +kernel
theorem dL_act_356 : decode cL_act 356 = .ok (.invokevirtual 37, 3) := by decide +kernel
theorem dL_act_359 : decode cL_act 359 = .ok (.iload 7, 2) := by decide +kernel
theorem dL_act_361 : decode cL_act 361 = .ok (.aload 5, 2) := by decide +kernel
theorem dL_act_363 : decode cL_act 363 = .ok (.iconst 0, 1) := by decide +kernel
theorem dL_act_364 : decode cL_act 364 = .ok (.iaload, 1) := by decide +kernel
theorem dL_act_365 : decode cL_act 365 = .ok (.if_icmp .eq 7, 3) := by decide +kernel
theorem dL_act_368 : decode cL_act 368 = .ok (.iconst 1, 1) := by decide +kernel
theorem dL_act_369 : decode cL_act 369 = .ok (.goto 4, 3) := by decide +kernel
theorem dL_act_372 : decode cL_act 372 = .ok (.iconst 0, 1) := by decide +kernel
theorem dL_act_373 : decode cL_act 373 = .ok (.if_icmp .ne 7, 3) := by decide +kernel
theorem dL_act_376 : decode cL_act 376 = .ok (.iconst 1, 1) := by decide +kernel
theorem dL_act_377 : decode cL_act 377 = .ok (.goto 4, 3) := by decide +kernel
theorem dL_act_380 : decode cL_act 380 = .ok (.iconst 0, 1) := by decide +kernel
theorem dL_act_381 : decode cL_act 381 = .ok (.ireturn, 1) := by decide +kernel
theorem dL_act_382 : decode cL_act 382 = .ok (.aload_n 1, 1) := by decide +kernel
theorem dL_act_383 : decode cL_act 383 = .ok (.getfield 41, 3) := by decide +kernel
theorem dL_act_386 : decode cL_act 386 = .ok (.istore 6, 2) := by decide +kernel
theorem dL_act_388 : decode cL_act 388 = .ok (.aload_n 1, 1) := by decide +kernel
theorem dL_act_389 : decode cL_act 389 = .ok (.iload_n 2, 1) := by decide +kernel
theorem dL_act_390 : decode cL_act 390 = .ok (.iconst 4, 1) := by decide +kernel
theorem dL_act_391 : decode cL_act 391 = .ok (.ishr, 1) := by decide +kernel
theorem dL_act_392 : decode cL_act 392 = .ok (.iload_n 2, 1) := by decide +kernel
theorem dL_act_393 : decode cL_act 393 = .ok (.bipush 8, 2) := by decide +kernel
theorem dL_act_395 : decode cL_act 395 = .ok (.ishr, 1) := by decide +kernel
theorem dL_act_396 : decode cL_act 396 = .ok (.iconst 2, 1) := by decide +kernel
theorem dL_act_397 : decode cL_act 397 = .ok (.invokestatic 15, 3) := by decide +kernel
theorem dL_act_400 : decode cL_act 400 = .ok (.ifCond .ne 8, 3) := by decide +kernel
theorem dL_act_403 : decode cL_act 403 = .ok (.bipush 100, 2) := by decide +kernel
theorem dL_act_405 : decode cL_act 405 = .ok (.goto 5, 3) := by decide +kernel
theorem dL_act_408 : decode cL_act 408 = .ok (.bipush 15, 2) := by decide +kernel
theorem dL_act_410 : decode cL_act 410 = .ok (.invokestatic 15, 3) := by decide +kernel
theorem dL_act_413 : decode cL_act 413 = .ok (.putfield 41, 3) := by decide +kernel
theorem dL_act_416 : decode cL_act 416 = .ok (.aload_n 0, 1) := by decide +kernel
theorem dL_act_417 : decode cL_act 417 = .ok (.aload_n 1, 1) := by decide +kernel
theorem dL_act_418 : decode cL_act 418 = .ok (.getfield 41, 3) := by decide +kernel
theorem dL_act_421 : decode cL_act 421 = .ok (.invokevirtual 45, 3) := by decide +kernel
theorem dL_act_424 : decode cL_act 424 = .ok (.iload 6, 2) := by decide +kernel
theorem dL_act_426 : decode cL_act 426 = .ok (.if_icmp .ne 7, 3) := by decide +kernel
theorem dL_act_429 : decode cL_act 429 = .ok (.iconst 1, 1) := by decide +kernel
theorem dL_act_430 : decode cL_act 430 = .ok (.goto 4, 3) := by decide +kernel
theorem dL_act_433 : decode cL_act 433 = .ok (.iconst 0, 1) := by decide +kernel
theorem dL_act_434 : decode cL_act 434 = .ok (.ireturn, 1) := by decide +kernel
theorem dL_act_435 : decode cL_act 435 = .ok (.iconst 1, 1) := by decide +kernel
theorem dL_act_436 : decode cL_act 436 = .ok (.iload_n 2, 1) := by decide +kernel
theorem dL_act_437 : decode cL_act 437 = .ok (.iconst 4, 1) := by decide +kernel
theorem dL_act_438 : decode cL_act 438 = .ok (.ishr, 1) := by decide +kernel
theorem dL_act_439 : decode cL_act 439 = .ok (.iload_n 2, 1) := by decide +kernel
theorem dL_act_440 : decode cL_act 440 = .ok (.bipush 8, 2) := by decide +kernel
theorem dL_act_442 : decode cL_act 442 = .ok (.ishr, 1) := by decide +kernel
theorem dL_act_443 : decode cL_act 443 = .ok (.iconst 4, 1) := by decide +kernel
theorem dL_act_444 : decode cL_act 444 = .ok (.invokestatic 15, 3) := by decide +kernel
theorem dL_act_447 : decode cL_act 447 = .ok (.ifCond .ne 9, 3) := by decide +kernel
theorem dL_act_450 : decode cL_act 450 = .ok (.sipush 200, 3) := by decide +kernel
theorem dL_act_453 : decode cL_act 453 = .ok (.goto 5, 3) := by decide +kernel
theorem dL_act_456 : decode cL_act 456 = .ok (.bipush 12, 2) := by decide +kernel
theorem dL_act_458 : decode cL_act 458 = .ok (.invokestatic 15, 3) := by decide +kernel
theorem dL_act_461 : decode cL_act 461 = .ok (.iadd, 1) := by decide +kernel
theorem dL_act_462 : decode cL_act 462 = .ok (.istore 6, 2) := by decide +kernel
theorem dL_act_464 : decode cL_act 464 = .ok (.aload_n 0, 1) := by decide +kernel
theorem dL_act_465 : decode cL_act 465 = .ok (.iload 6, 2) := by decide +kernel
theorem dL_act_467 : decode cL_act 467 = .ok (.invokevirtual 49, 3) := by decide +kernel
theorem dL_act_470 : decode cL_act 470 = .ok (.aload_n 1, 1) := by decide +kernel
theorem dL_act_471 : decode cL_act 471 = .ok (.iload 6, 2) := by decide +kernel
theorem dL_act_473 : decode cL_act 473 = .ok (.invokevirtual 52, 3) := by decide +kernel
theorem dL_act_476 : decode cL_act 476 = .ok (.if_icmp .ne 7, 3) := by decide +kernel
theorem dL_act_479 : decode cL_act 479 = .ok (.iconst 1, 1) := by decide +kernel
theorem dL_act_480 : decode cL_act 480 = .ok (.goto 4, 3) := by decide +kernel
theorem dL_act_483 : decode cL_act 483 = .ok (.iconst 0, 1) := by decide +kernel
theorem dL_act_484 : decode cL_act 484 = .ok (.ireturn, 1) := by decide +kernel
set_option maxRecDepth 20000 in
theorem ggL_build_X2_init : GoodIn wsL_build wsX2_init := goodIn_r _ [6, 7, 8, 9, 10, 11, 12, 211, 212, 213] (by decide +kernel) (by decide +kernel)
set_option maxRecDepth 20000 in
theorem gL_build_X2_init_n53 : GoodIn wsL_build (wsX2_init) := ggL_build_X2_init
set_option maxRecDepth 20000 in
theorem ggL_build_L_cell : GoodIn wsL_build wsL_cell := goodIn_r _ [16, 17] (by decide +kernel) (by decide +kernel)
set_option maxRecDepth 20000 in
theorem gL_build_L_cell : GoodIn wsL_build (va_wsS RL 54 yL_cell wsL_cell) := goodIn_app (goodIn_of _ (by decide +kernel)) ggL_build_L_cell
set_option maxRecDepth 20000 in
theorem ggL_build_L_below : GoodIn wsL_build wsL_below := goodIn_r _ [20, 21] (by decide +kernel) (by decide +kernel)
set_option maxRecDepth 20000 in
theorem gL_build_L_below : GoodIn wsL_build (va_wsS RL 15 yL_below wsL_below) := goodIn_app (goodIn_of _ (by decide +kernel)) ggL_build_L_below
set_option maxRecDepth 20000 in
theorem ggL_build_L_act : GoodIn wsL_build wsL_act := goodIn_ca (goodIn_ca (goodIn_ca (goodIn_r _ [24, 25, 26, 27, 18, 19, 15, 20, 21, 28, 29, 3, 30, 10, 31, 32, 33, 34, 35, 36, 37, 38, 39, 40, 41, 42, 43, 44, 45, 46, 47, 48, 49, 50, 51, 52, 53, 54, 55, 56, 8, 9, 57, 58, 59, 60, 61, 62, 63, 64, 65, 66, 67, 68, 69, 70, 71, 72, 73, 74, 75, 76, 77, 78, 79, 80, 81, 82, 83, 84, 85, 86, 87, 88, 89, 90, 91, 92, 93, 94, 95, 96, 97, 98, 99, 100, 101, 102, 103, 104, 105, 106, 107, 108, 109, 110, 111, 112, 113, 114, 115, 116, 117, 118, 119, 120, 121, 122, 123, 124, 125, 126, 127, 128, 129, 130, 131, 132, 133, 134, 135, 136, 137, 138, 139, 140, 141, 142, 143, 144, 145, 146, 147, 148, 149, 150, 151, 152, 153, 154, 155, 156, 157, 158, 159, 160, 161, 162, 163, 164, 165, 166, 167, 168, 169, 170, 171, 172, 173, 174, 175, 176, 177, 178, 179, 180, 181, 182, 183, 184, 185, 186, 187, 188, 189, 190, 191, 192, 193, 194, 195, 196, 11, 197, 198, 199, 200, 201, 202, 12, 203, 204, 205, 206, 207, 208, 209, 210, 211, 212, 213, 214, 215, 216, 217, 218, 219, 220, 221, 222, 223, 224, 225, 226, 227, 228] (by decide +kernel) (by decide +kernel)) (goodIn_sub (fun _ h => List.mem_cons_of_mem _ (List.mem_append_left _ (List.mem_append_left _ (List.mem_append_right _ h)))) (by decide +kernel))) (goodIn_sub (fun _ h => List.mem_cons_of_mem _ (List.mem_append_left _ (List.mem_append_right _ h))) (by decide +kernel))) (goodIn_sub (fun _ h => List.mem_cons_of_mem _ (List.mem_append_right _ h)) (by decide +kernel))
set_option maxRecDepth 20000 in
theorem gL_build_L_act : GoodIn wsL_build (va_wsS RL 59 yL_act wsL_act) := goodIn_app (goodIn_of _ (by decide +kernel)) ggL_build_L_act
theorem dL_build_0 : decode cL_build 0 = .ok (.new 10, 3) := by decide +kernel
theorem dL_build_3 : decode cL_build 3 = .ok (.dup, 1) := by decide +kernel
theorem dL_build_4 : decode cL_build 4 = .ok (.invokespecial 53, 3) := by decide +kernel
theorem dL_build_7 : decode cL_build 7 = .ok (.astore_n 2, 1) := by decide +kernel
theorem dL_build_8 : decode cL_build 8 = .ok (.iconst 2, 1) := by decide +kernel
theorem dL_build_9 : decode cL_build 9 = .ok (.aload_n 1, 1) := by decide +kernel
theorem dL_build_10 : decode cL_build 10 = .ok (.iconst 0, 1) := by decide +kernel
theorem dL_build_11 : decode cL_build 11 = .ok (.invokestatic 54, 3) := by decide +kernel
theorem dL_build_14 : decode cL_build 14 = .ok (.bipush 7, 2) := by decide +kernel
theorem dL_build_16 : decode cL_build 16 = .ok (.invokestatic 15, 3) := by decide +kernel
theorem dL_build_19 : decode cL_build 19 = .ok (.iadd, 1) := by decide +kernel
theorem dL_build_20 : decode cL_build 20 = .ok (.istore_n 3, 1) := by decide +kernel
theorem dL_build_21 : decode cL_build 21 = .ok (.iconst 0, 1) := by decide +kernel
theorem dL_build_22 : decode cL_build 22 = .ok (.istore 4, 2) := by decide +kernel
theorem dL_build_24 : decode cL_build 24 = .ok (.iload 4, 2) := by decide +kernel
theorem dL_build_26 : decode cL_build 26 = .ok (.iload_n 3, 1) := by decide +kernel
theorem dL_build_27 : decode cL_build 27 = .ok (.if_icmp .ge 35, 3) := by decide +kernel
theorem dL_build_30 : decode cL_build 30 = .ok (.aload_n 0, 1) := by decide +kernel
theorem dL_build_31 : decode cL_build 31 = .ok (.aload_n 2, 1) := by decide +kernel
theorem dL_build_32 : decode cL_build 32 = .ok (.bipush 11, 2) := by decide +kernel
theorem dL_build_34 : decode cL_build 34 = .ok (.aload_n 1, 1) := by decide +kernel
theorem dL_build_35 : decode cL_build 35 = .ok (.iconst 1, 1) := by decide +kernel
theorem dL_build_36 : decode cL_build 36 = .ok (.iload 4, 2) := by decide +kernel
theorem dL_build_38 : decode cL_build 38 = .ok (.iadd, 1) := by decide +kernel
theorem dL_build_39 : decode cL_build 39 = .ok (.invokestatic 54, 3) := by decide +kernel
theorem dL_build_42 : decode cL_build 42 = .ok (.iconst 5, 1) := by decide +kernel
theorem dL_build_43 : decode cL_build 43 = .ok (.ishr, 1) := by decide +kernel
theorem dL_build_44 : decode cL_build 44 = .ok (.ldc 58, 2) := by decide +kernel
theorem dL_build_46 : decode cL_build 46 = .ok (.iand, 1) := by decide +kernel
theorem dL_build_47 : decode cL_build 47 = .ok (.imul, 1) := by decide +kernel
theorem dL_build_48 : decode cL_build 48 = .ok (.invokestatic 59, 3) := by decide +kernel
theorem dL_build_51 : decode cL_build 51 = .ok (.ifCond .ne 5, 3) := by decide +kernel
theorem dL_build_54 : decode cL_build 54 = .ok (.aconst_null, 1) := by decide +kernel
theorem dL_build_55 : decode cL_build 55 = .ok (.areturn, 1) := by decide +kernel
theorem dL_build_56 : decode cL_build 56 = .ok (.iinc 4 1, 3) := by decide +kernel
theorem dL_build_59 : decode cL_build 59 = .ok (.goto (-35), 3) := by decide +kernel
theorem dL_build_62 : decode cL_build 62 = .ok (.iconst 0, 1) := by decide +kernel
theorem dL_build_63 : decode cL_build 63 = .ok (.istore 4, 2) := by decide +kernel
theorem dL_build_65 : decode cL_build 65 = .ok (.iload 4, 2) := by decide +kernel
theorem dL_build_67 : decode cL_build 67 = .ok (.bipush 12, 2) := by decide +kernel
theorem dL_build_69 : decode cL_build 69 = .ok (.if_icmp .ge 33, 3) := by decide +kernel
theorem dL_build_72 : decode cL_build 72 = .ok (.aload_n 0, 1) := by decide +kernel
theorem dL_build_73 : decode cL_build 73 = .ok (.aload_n 2, 1) := by decide +kernel
theorem dL_build_74 : decode cL_build 74 = .ok (.aload_n 1, 1) := by decide +kernel
theorem dL_build_75 : decode cL_build 75 = .ok (.iload 4, 2) := by decide +kernel
theorem dL_build_77 : decode cL_build 77 = .ok (.invokestatic 54, 3) := by decide +kernel
theorem dL_build_80 : decode cL_build 80 = .ok (.iconst 2, 1) := by decide +kernel
theorem dL_build_81 : decode cL_build 81 = .ok (.ishr, 1) := by decide +kernel
theorem dL_build_82 : decode cL_build 82 = .ok (.bipush 41, 2) := by decide +kernel
theorem dL_build_84 : decode cL_build 84 = .ok (.iload 4, 2) := by decide +kernel
theorem dL_build_86 : decode cL_build 86 = .ok (.imul, 1) := by decide +kernel
theorem dL_build_87 : decode cL_build 87 = .ok (.iadd, 1) := by decide +kernel
theorem dL_build_88 : decode cL_build 88 = .ok (.invokestatic 59, 3) := by decide +kernel
theorem dL_build_91 : decode cL_build 91 = .ok (.ifCond .ne 5, 3) := by decide +kernel
theorem dL_build_94 : decode cL_build 94 = .ok (.aconst_null, 1) := by decide +kernel
theorem dL_build_95 : decode cL_build 95 = .ok (.areturn, 1) := by decide +kernel
theorem dL_build_96 : decode cL_build 96 = .ok (.iinc 4 1, 3) := by decide +kernel
theorem dL_build_99 : decode cL_build 99 = .ok (.goto (-34), 3) := by decide +kernel
theorem dL_build_102 : decode cL_build 102 = .ok (.aload_n 2, 1) := by decide +kernel
theorem dL_build_103 : decode cL_build 103 = .ok (.areturn, 1) := by decide +kernel
set_option maxRecDepth 20000 in
theorem ggL_law_X1_init : GoodIn wsL_law wsX1_init := goodIn_r _ [12, 13, 14, 15, 16, 17, 18, 19, 20, 21, 22, 23, 24, 25, 26, 27, 28, 29, 30, 31, 32, 33, 34, 35, 36, 452, 453, 454, 446, 447, 448] (by decide +kernel) (by decide +kernel)
set_option maxRecDepth 20000 in
theorem gL_law_X1_init : GoodIn wsL_law (wsX1_init) := ggL_law_X1_init
set_option maxRecDepth 20000 in
theorem ggL_law_L_build : GoodIn wsL_law wsL_build := goodIn_ca (goodIn_ca (goodIn_ca (goodIn_r _ [40, 41, 42, 43, 44, 45, 46, 47, 14, 15, 48, 49, 50, 51, 52, 39, 53, 54, 55, 56, 57, 58, 59, 60, 61, 3, 4, 9, 62, 63, 64, 65, 66, 67, 2, 68, 69, 70, 19, 71, 72, 73, 74, 75, 76, 77, 78, 79, 80, 81, 18, 82, 83, 84, 85, 86, 87, 88, 89, 90, 91, 92, 93, 94, 95, 96, 97, 98, 99, 100, 101, 102, 26, 103, 104, 105, 106, 107, 108, 109, 110, 111, 112, 113, 114, 25, 115, 6, 7, 8, 116, 117, 118, 119, 120, 121, 122, 123, 124, 125, 126, 127, 128, 129, 130, 131, 132, 133, 134, 135, 136, 137, 138, 139, 140, 141, 142, 143, 144, 145, 146, 147, 148, 149, 150, 151, 152, 153, 154, 155, 156, 157, 158, 159, 160, 161, 162, 163, 164, 165, 166, 167, 168, 169, 170, 171, 172, 173, 174, 175, 176, 177, 178, 179, 180, 181, 182, 183, 184, 185, 186, 187, 188, 21, 189, 190, 191, 192, 193, 194, 195, 196, 20, 197, 198, 199, 200, 201, 202, 203, 204, 205, 206, 207, 208, 209, 210, 211, 212, 213, 214, 215, 216, 217, 218, 219, 220, 221, 222, 223, 224, 225, 226, 227, 228, 229, 230, 231, 232, 233, 234, 449, 450, 451, 446, 447, 448, 455, 456, 457, 458, 459, 460, 461, 462, 463, 452, 453, 454] (by decide +kernel) (by decide +kernel)) (goodIn_sub (fun _ h => List.mem_append_left _ (List.mem_append_left _ (List.mem_append_right _ h))) (by decide +kernel))) (goodIn_sub (fun _ h => List.mem_append_left _ (List.mem_append_right _ h)) (by decide +kernel))) (goodIn_sub (fun _ h => List.mem_append_right _ h) (by decide +kernel))
set_option maxRecDepth 20000 in
theorem gL_law_L_build : GoodIn wsL_law (va_wsS RL 64 yL_build wsL_build) := goodIn_app (goodIn_of _ (by decide +kernel)) ggL_law_L_build
set_option maxRecDepth 20000 in
theorem ggL_law_L_cell : GoodIn wsL_law wsL_cell := goodIn_r _ [53, 54] (by decide +kernel) (by decide +kernel)
set_option maxRecDepth 20000 in
theorem gL_law_L_cell : GoodIn wsL_law (va_wsS RL 54 yL_cell wsL_cell) := goodIn_app (goodIn_of _ (by decide +kernel)) ggL_law_L_cell
set_option maxRecDepth 20000 in
theorem ggL_law_L_act : GoodIn wsL_law wsL_act := goodIn_ca (goodIn_ca (goodIn_ca (goodIn_r _ [61, 3, 4, 9, 55, 56, 39, 57, 58, 62, 63, 43, 64, 48, 65, 66, 67, 2, 68, 69, 70, 19, 71, 72, 73, 74, 75, 76, 77, 78, 79, 80, 81, 18, 82, 83, 84, 85, 86, 87, 14, 15, 88, 89, 90, 91, 92, 93, 94, 95, 96, 97, 98, 99, 100, 101, 102, 26, 103, 104, 105, 106, 107, 108, 109, 110, 111, 112, 113, 114, 25, 115, 6, 7, 8, 116, 117, 118, 119, 120, 121, 122, 123, 124, 125, 126, 127, 128, 129, 130, 131, 132, 133, 134, 135, 136, 137, 138, 139, 140, 141, 142, 143, 144, 145, 146, 147, 148, 149, 150, 151, 152, 153, 154, 155, 156, 157, 158, 159, 160, 161, 162, 163, 164, 165, 166, 167, 168, 169, 170, 171, 172, 173, 174, 175, 176, 177, 178, 179, 180, 181, 182, 183, 184, 185, 186, 187, 188, 21, 189, 190, 191, 192, 193, 194, 195, 196, 20, 197, 198, 199, 200, 201, 202, 203, 204, 205, 206, 207, 208, 209, 210, 211, 212, 213, 214, 215, 216, 217, 218, 219, 220, 49, 221, 222, 223, 224, 225, 226, 50, 227, 228, 229, 230, 231, 232, 233, 234, 449, 450, 451, 446, 447, 448, 455, 456, 457, 458, 459, 460, 461, 462, 463, 452, 453, 454] (by decide +kernel) (by decide +kernel)) (goodIn_sub (fun _ h => List.mem_append_left _ (List.mem_append_left _ (List.mem_append_right _ h))) (by decide +kernel))) (goodIn_sub (fun _ h => List.mem_append_left _ (List.mem_append_right _ h)) (by decide +kernel))) (goodIn_sub (fun _ h => List.mem_append_right _ h) (by decide +kernel))
set_option maxRecDepth 20000 in
theorem gL_law_L_act : GoodIn wsL_law (va_wsS RL 59 yL_act wsL_act) := goodIn_app (goodIn_of _ (by decide +kernel)) ggL_law_L_act
set_option maxRecDepth 20000 in
theorem ggL_law_X1_digest : GoodIn wsL_law wsX1_digest := goodIn_ca (goodIn_ca (goodIn_r _ [238, 239, 19, 240, 241, 242, 2, 243, 20, 244, 245, 246, 247, 248, 249, 250, 251, 79, 80, 81, 18, 82, 83, 252, 253, 254, 255, 21, 256, 257, 258, 259, 200, 201, 202, 203, 158, 204, 197, 159, 160, 161, 162, 163, 164, 165, 166, 167, 168, 169, 170, 171, 172, 173, 174, 26, 205, 206, 207, 73, 208, 90, 209, 210, 211, 212, 89, 92, 260, 261, 262, 263, 264, 265, 266, 267, 198, 268, 269, 270, 271, 272, 273, 274, 275, 276, 277, 6, 7, 8, 278, 140, 141, 279, 280, 281, 282, 184, 283, 284, 285, 286, 150, 287, 288, 289, 290, 291, 292, 293, 294, 295, 296, 151, 297, 298, 299, 300, 301, 302, 303, 304, 305, 306, 74, 75, 76, 77, 78, 307, 308, 309, 310, 311, 312, 313, 314, 315, 316, 317, 318, 319, 320, 321, 322, 323, 324, 325, 326, 152, 153, 154, 155, 156, 157, 327, 328, 329, 330, 331, 332, 333, 334, 335, 336, 337, 338, 339, 340, 341, 342, 343, 344, 345, 346, 347, 199, 348, 349, 350, 351, 352, 353, 354, 355, 356, 357, 358, 359, 360, 361, 362, 363, 364, 365, 366, 367, 368, 369, 370, 371, 372, 373, 374, 375, 446, 447, 448, 452, 453, 454, 455, 456, 457, 458, 459, 460, 461, 462, 463] (by decide +kernel) (by decide +kernel)) (goodIn_sub (fun _ h => List.mem_append_left _ (List.mem_append_right _ h)) (by decide +kernel))) (goodIn_sub (fun _ h => List.mem_append_right _ h) (by decide +kernel))
set_option maxRecDepth 20000 in
theorem gL_law_X1_digest : GoodIn wsL_law (wsV RL 68 RX1 yX1_digest wsX1_digest) := goodIn_app (goodIn_of _ (by decide +kernel)) ggL_law_X1_digest
set_option maxRecDepth 20000 in
theorem ggL_law_X1_lamps : GoodIn wsL_law wsX1_lamps := goodIn_r _ [251, 19, 79, 80, 81, 18, 82, 83, 446, 447, 448, 452, 453, 454] (by decide +kernel) (by decide +kernel)
set_option maxRecDepth 20000 in
theorem gL_law_X1_lamps : GoodIn wsL_law (wsV RL 72 RX1 yX1_lamps wsX1_lamps) := goodIn_app (goodIn_of _ (by decide +kernel)) ggL_law_X1_lamps
set_option maxRecDepth 20000 in
theorem ggL_law_X1_phaseOf : GoodIn wsL_law wsX1_phaseOf := goodIn_ca (goodIn_r _ [326, 20, 152, 153, 154, 2, 155, 156, 157, 19, 158, 79, 80, 81, 18, 82, 83, 159, 160, 161, 162, 163, 164, 165, 166, 167, 168, 169, 170, 171, 172, 173, 174, 26, 327, 210, 211, 73, 212, 89, 92, 446, 447, 448, 452, 453, 454, 455, 456, 457, 458, 459, 460, 461, 462, 463] (by decide +kernel) (by decide +kernel)) (goodIn_sub (fun _ h => List.mem_append_right _ h) (by decide +kernel))
set_option maxRecDepth 20000 in
theorem gL_law_X1_phaseOf : GoodIn wsL_law (wsV RL 75 RX1 yX1_phaseOf wsX1_phaseOf) := goodIn_app (goodIn_of _ (by decide +kernel)) ggL_law_X1_phaseOf
set_option maxRecDepth 20000 in
theorem ggL_law_X1_isDue : GoodIn wsL_law wsX1_isDue := goodIn_ca (goodIn_r _ [331, 20, 152, 153, 154, 2, 155, 156, 157, 19, 158, 79, 80, 81, 18, 82, 83, 159, 160, 161, 162, 163, 164, 165, 166, 167, 168, 169, 170, 171, 172, 173, 174, 26, 205, 206, 207, 73, 208, 90, 209, 210, 211, 212, 89, 92, 446, 447, 448, 452, 453, 454, 455, 456, 457, 458, 459, 460, 461, 462, 463] (by decide +kernel) (by decide +kernel)) (goodIn_sub (fun _ h => List.mem_append_right _ h) (by decide +kernel))
set_option maxRecDepth 20000 in
theorem gL_law_X1_isDue : GoodIn wsL_law (wsV RL 78 RX1 yX1_isDue wsX1_isDue) := goodIn_app (goodIn_of _ (by decide +kernel)) ggL_law_X1_isDue
set_option maxRecDepth 20000 in
theorem ggL_law_X1_shines : GoodIn wsL_law wsX1_shines := goodIn_ca (goodIn_r _ [335, 20, 197, 152, 153, 154, 2, 155, 156, 157, 19, 158, 79, 80, 81, 18, 82, 83, 159, 160, 161, 162, 163, 164, 165, 166, 167, 168, 169, 170, 171, 172, 173, 174, 26, 200, 201, 202, 203, 204, 21, 205, 206, 207, 73, 208, 90, 209, 210, 211, 212, 89, 92, 446, 447, 448, 455, 456, 457, 458, 459, 460, 461, 462, 463, 452, 453, 454] (by decide +kernel) (by decide +kernel)) (goodIn_sub (fun _ h => List.mem_append_right _ h) (by decide +kernel))
set_option maxRecDepth 20000 in
theorem gL_law_X1_shines : GoodIn wsL_law (wsV RL 82 RX1 yX1_shines wsX1_shines) := goodIn_app (goodIn_of _ (by decide +kernel)) ggL_law_X1_shines
set_option maxRecDepth 20000 in
theorem ggL_law_X1_limit : GoodIn wsL_law wsX1_limit := goodIn_r _ [255, 21, 446, 447, 448] (by decide +kernel) (by decide +kernel)
set_option maxRecDepth 20000 in
theorem gL_law_X1_limit : GoodIn wsL_law (wsV RL 85 RX1 yX1_limit wsX1_limit) := goodIn_app (goodIn_of _ (by decide +kernel)) ggL_law_X1_limit
set_option maxRecDepth 20000 in
theorem ggL_law_X1_together : GoodIn wsL_law wsX1_together := goodIn_r _ [286, 19, 158, 150, 79, 80, 81, 18, 82, 83, 159, 160, 161, 162, 163, 164, 165, 166, 167, 168, 169, 170, 171, 172, 173, 174, 26, 287, 288, 2, 289, 290, 291, 292, 446, 447, 448, 455, 456, 457, 458, 459, 460, 461, 462, 463, 452, 453, 454] (by decide +kernel) (by decide +kernel)
set_option maxRecDepth 20000 in
theorem gL_law_X1_together : GoodIn wsL_law (wsV RL 87 RX1 yX1_together wsX1_together) := goodIn_app (goodIn_of _ (by decide +kernel)) ggL_law_X1_together
set_option maxRecDepth 20000 in
theorem ggL_law_X1_shone : GoodIn wsL_law wsX1_shone := goodIn_ca (goodIn_r _ [343, 198, 152, 153, 154, 2, 155, 156, 157, 19, 158, 79, 80, 81, 18, 82, 83, 159, 160, 161, 162, 163, 164, 165, 166, 167, 168, 169, 170, 171, 172, 173, 174, 26, 455, 456, 457, 458, 459, 460, 461, 462, 463, 446, 447, 448, 452, 453, 454] (by decide +kernel) (by decide +kernel)) (goodIn_sub (fun _ h => List.mem_append_right _ h) (by decide +kernel))
set_option maxRecDepth 20000 in
theorem gL_law_X1_shone : GoodIn wsL_law (wsV RL 90 RX1 yX1_shone wsX1_shone) := goodIn_app (goodIn_of _ (by decide +kernel)) ggL_law_X1_shone
set_option maxRecDepth 20000 in
theorem ggL_law_X1_beatsUntilMeet : GoodIn wsL_law wsX1_beatsUntilMeet := goodIn_ca (goodIn_r _ [363, 20, 150, 152, 153, 154, 2, 155, 156, 157, 19, 158, 79, 80, 81, 18, 82, 83, 159, 160, 161, 162, 163, 164, 165, 166, 167, 168, 169, 170, 171, 172, 173, 174, 26, 364, 365, 366, 73, 367, 89, 209, 210, 211, 212, 92, 368, 369, 370, 371, 446, 447, 448, 455, 456, 457, 458, 459, 460, 461, 462, 463, 452, 453, 454] (by decide +kernel) (by decide +kernel)) (goodIn_sub (fun _ h => List.mem_append_right _ h) (by decide +kernel))
set_option maxRecDepth 20000 in
theorem gL_law_X1_beatsUntilMeet : GoodIn wsL_law (wsV RL 93 RX1 yX1_beatsUntilMeet wsX1_beatsUntilMeet) := goodIn_app (goodIn_of _ (by decide +kernel)) ggL_law_X1_beatsUntilMeet
set_option maxRecDepth 20000 in
theorem ggL_law_X1_meet : GoodIn wsL_law wsX1_meet := goodIn_ca (goodIn_r _ [387, 151, 152, 153, 154, 2, 155, 156, 157, 19, 158, 79, 80, 81, 18, 82, 83, 159, 160, 161, 162, 163, 164, 165, 166, 167, 168, 169, 170, 171, 172, 173, 174, 26, 297, 298, 299, 150, 300, 301, 302, 290, 291, 292, 455, 456, 457, 458, 459, 460, 461, 462, 463, 446, 447, 448, 452, 453, 454] (by decide +kernel) (by decide +kernel)) (goodIn_sub (fun _ h => List.mem_append_right _ h) (by decide +kernel))
set_option maxRecDepth 20000 in
theorem gL_law_X1_meet : GoodIn wsL_law (wsV RL 96 RX1 yX1_meet wsX1_meet) := goodIn_app (goodIn_of _ (by decide +kernel)) ggL_law_X1_meet
set_option maxRecDepth 20000 in
theorem ggL_law_X1_meets : GoodIn wsL_law wsX1_meets := goodIn_ca (goodIn_r _ [351, 151, 152, 153, 154, 2, 155, 156, 157, 19, 158, 79, 80, 81, 18, 82, 83, 159, 160, 161, 162, 163, 164, 165, 166, 167, 168, 169, 170, 171, 172, 173, 174, 26, 352, 353, 354, 355, 297, 298, 299, 150, 300, 301, 302, 290, 291, 292, 455, 456, 457, 458, 459, 460, 461, 462, 463, 446, 447, 448, 452, 453, 454] (by decide +kernel) (by decide +kernel)) (goodIn_sub (fun _ h => List.mem_append_right _ h) (by decide +kernel))
set_option maxRecDepth 20000 in
theorem gL_law_X1_meets : GoodIn wsL_law (wsV RL 99 RX1 yX1_meets wsX1_meets) := goodIn_app (goodIn_of _ (by decide +kernel)) ggL_law_X1_meets
set_option maxRecDepth 20000 in
theorem ggL_law_X1_bestShift : GoodIn wsL_law wsX1_bestShift := goodIn_ca (goodIn_r _ [359, 150, 152, 153, 154, 2, 155, 156, 157, 19, 158, 79, 80, 81, 18, 82, 83, 159, 160, 161, 162, 163, 164, 165, 166, 167, 168, 169, 170, 171, 172, 173, 174, 26, 352, 353, 354, 355, 297, 298, 299, 151, 300, 301, 302, 290, 291, 292, 455, 456, 457, 458, 459, 460, 461, 462, 463, 446, 447, 448, 452, 453, 454] (by decide +kernel) (by decide +kernel)) (goodIn_sub (fun _ h => List.mem_append_right _ h) (by decide +kernel))
set_option maxRecDepth 20000 in
theorem gL_law_X1_bestShift : GoodIn wsL_law (wsV RL 102 RX1 yX1_bestShift wsX1_bestShift) := goodIn_app (goodIn_of _ (by decide +kernel)) ggL_law_X1_bestShift
set_option maxRecDepth 20000 in
theorem ggL_law_X1_seen : GoodIn wsL_law wsX1_seen := goodIn_ca (goodIn_r _ [375, 19, 158, 184, 198, 74, 75, 2, 76, 77, 78, 79, 80, 81, 18, 82, 83, 159, 160, 161, 162, 163, 164, 165, 166, 167, 168, 169, 170, 171, 172, 173, 174, 26, 446, 447, 448, 455, 456, 457, 458, 459, 460, 461, 462, 463, 452, 453, 454] (by decide +kernel) (by decide +kernel)) (goodIn_sub (fun _ h => List.mem_append_left _ (List.mem_append_right _ h)) (by decide +kernel))
set_option maxRecDepth 20000 in
theorem gL_law_X1_seen : GoodIn wsL_law (wsV RL 105 RX1 yX1_seen wsX1_seen) := goodIn_app (goodIn_of _ (by decide +kernel)) ggL_law_X1_seen
set_option maxRecDepth 20000 in
theorem ggL_law_X1_power : GoodIn wsL_law wsX1_power := goodIn_r _ [259, 20, 200, 201, 202, 2, 203, 19, 158, 204, 21, 197, 79, 80, 81, 18, 82, 83, 159, 160, 161, 162, 163, 164, 165, 166, 167, 168, 169, 170, 171, 172, 173, 174, 26, 205, 206, 207, 73, 208, 90, 209, 210, 211, 212, 89, 92, 446, 447, 448, 455, 456, 457, 458, 459, 460, 461, 462, 463, 452, 453, 454] (by decide +kernel) (by decide +kernel)
set_option maxRecDepth 20000 in
theorem gL_law_X1_power : GoodIn wsL_law (wsV RL 108 RX1 yX1_power wsX1_power) := goodIn_app (goodIn_of _ (by decide +kernel)) ggL_law_X1_power
set_option maxRecDepth 20000 in
theorem ggL_law_X1_apart : GoodIn wsL_law wsX1_apart := goodIn_r _ [296, 19, 158, 151, 79, 80, 81, 18, 82, 83, 159, 160, 161, 162, 163, 164, 165, 166, 167, 168, 169, 170, 171, 172, 173, 174, 26, 297, 298, 2, 299, 150, 300, 301, 302, 290, 291, 292, 446, 447, 448, 455, 456, 457, 458, 459, 460, 461, 462, 463, 452, 453, 454] (by decide +kernel) (by decide +kernel)
set_option maxRecDepth 20000 in
theorem gL_law_X1_apart : GoodIn wsL_law (wsV RL 111 RX1 yX1_apart wsX1_apart) := goodIn_app (goodIn_of _ (by decide +kernel)) ggL_law_X1_apart
set_option maxRecDepth 20000 in
theorem ggL_law_L_below : GoodIn wsL_law wsL_below := goodIn_r _ [57, 58] (by decide +kernel) (by decide +kernel)
set_option maxRecDepth 20000 in
theorem gL_law_L_below : GoodIn wsL_law (va_wsS RL 15 yL_below wsL_below) := goodIn_app (goodIn_of _ (by decide +kernel)) ggL_law_L_below
set_option maxRecDepth 20000 in
theorem ggL_law_X1_shiftOf : GoodIn wsL_law wsX1_shiftOf := goodIn_ca (goodIn_r _ [396, 151, 152, 153, 154, 2, 155, 156, 157, 19, 158, 79, 80, 81, 18, 82, 83, 159, 160, 161, 162, 163, 164, 165, 166, 167, 168, 169, 170, 171, 172, 173, 174, 26, 455, 456, 457, 458, 459, 460, 461, 462, 463, 446, 447, 448, 452, 453, 454] (by decide +kernel) (by decide +kernel)) (goodIn_sub (fun _ h => List.mem_append_right _ h) (by decide +kernel))
set_option maxRecDepth 20000 in
theorem gL_law_X1_shiftOf : GoodIn wsL_law (wsV RL 114 RX1 yX1_shiftOf wsX1_shiftOf) := goodIn_app (goodIn_of _ (by decide +kernel)) ggL_law_X1_shiftOf
set_option maxRecDepth 20000 in
theorem ggL_law_X1_setShift : GoodIn wsL_law wsX1_setShift := goodIn_ca (goodIn_ca (goodIn_r _ [149, 150, 151, 152, 153, 154, 2, 155, 156, 157, 19, 158, 79, 80, 81, 18, 82, 83, 159, 160, 161, 162, 163, 164, 165, 166, 167, 168, 169, 170, 171, 172, 173, 174, 26, 74, 75, 76, 77, 78, 455, 456, 457, 458, 459, 460, 461, 462, 463, 446, 447, 448, 452, 453, 454] (by decide +kernel) (by decide +kernel)) (goodIn_sub (fun _ h => List.mem_append_right _ h) (by decide +kernel))) (goodIn_sub (fun _ h => List.mem_append_left _ (List.mem_append_right _ h)) (by decide +kernel))
set_option maxRecDepth 20000 in
theorem gL_law_X1_setShift : GoodIn wsL_law (wsV RL 31 RX1 yX1_setShift wsX1_setShift) := goodIn_app (goodIn_of _ (by decide +kernel)) ggL_law_X1_setShift
set_option maxRecDepth 20000 in
theorem ggL_law_X1_limitWanted : GoodIn wsL_law wsX1_limitWanted := goodIn_ca (goodIn_r _ [314, 20, 277, 6, 7, 8, 74, 75, 2, 76, 77, 78, 315, 316, 317, 318, 19, 158, 204, 79, 80, 81, 18, 82, 83, 159, 160, 161, 162, 163, 164, 165, 166, 167, 168, 169, 170, 171, 172, 173, 174, 26, 205, 206, 207, 73, 208, 90, 209, 210, 211, 212, 89, 92, 446, 447, 448, 455, 456, 457, 458, 459, 460, 461, 462, 463, 452, 453, 454] (by decide +kernel) (by decide +kernel)) (goodIn_sub (fun _ h => List.mem_append_left _ (List.mem_append_right _ h)) (by decide +kernel))
set_option maxRecDepth 20000 in
theorem gL_law_X1_limitWanted : GoodIn wsL_law (wsV RL 117 RX1 yX1_limitWanted wsX1_limitWanted) := goodIn_app (goodIn_of _ (by decide +kernel)) ggL_law_X1_limitWanted
set_option maxRecDepth 20000 in
theorem ggL_law_X1_brightest : GoodIn wsL_law wsX1_brightest := goodIn_ca (goodIn_r _ [306, 20, 277, 6, 7, 8, 74, 75, 2, 76, 77, 78, 200, 201, 202, 203, 19, 158, 204, 21, 197, 79, 80, 81, 18, 82, 83, 159, 160, 161, 162, 163, 164, 165, 166, 167, 168, 169, 170, 171, 172, 173, 174, 26, 205, 206, 207, 73, 208, 90, 209, 210, 211, 212, 89, 92, 446, 447, 448, 455, 456, 457, 458, 459, 460, 461, 462, 463, 452, 453, 454] (by decide +kernel) (by decide +kernel)) (goodIn_sub (fun _ h => List.mem_append_left _ (List.mem_append_right _ h)) (by decide +kernel))
set_option maxRecDepth 20000 in
theorem gL_law_X1_brightest : GoodIn wsL_law (wsV RL 120 RX1 yX1_brightest wsX1_brightest) := goodIn_app (goodIn_of _ (by decide +kernel)) ggL_law_X1_brightest
set_option maxRecDepth 20000 in
theorem ggL_law_X1_stayedDark : GoodIn wsL_law wsX1_stayedDark := goodIn_ca (goodIn_r _ [347, 199, 152, 153, 154, 2, 155, 156, 157, 19, 158, 79, 80, 81, 18, 82, 83, 159, 160, 161, 162, 163, 164, 165, 166, 167, 168, 169, 170, 171, 172, 173, 174, 26, 455, 456, 457, 458, 459, 460, 461, 462, 463, 446, 447, 448, 452, 453, 454] (by decide +kernel) (by decide +kernel)) (goodIn_sub (fun _ h => List.mem_append_right _ h) (by decide +kernel))
set_option maxRecDepth 20000 in
theorem gL_law_X1_stayedDark : GoodIn wsL_law (wsV RL 123 RX1 yX1_stayedDark wsX1_stayedDark) := goodIn_app (goodIn_of _ (by decide +kernel)) ggL_law_X1_stayedDark
set_option maxRecDepth 20000 in
theorem ggL_law_X1_dueIn : GoodIn wsL_law wsX1_dueIn := goodIn_ca (goodIn_ca (goodIn_r _ [403, 404, 20, 152, 153, 154, 2, 155, 156, 157, 19, 158, 79, 80, 81, 18, 82, 83, 159, 160, 161, 162, 163, 164, 165, 166, 167, 168, 169, 170, 171, 172, 173, 174, 26, 74, 75, 76, 77, 78, 405, 406, 407, 73, 408, 89, 90, 409, 206, 207, 208, 209, 210, 211, 212, 92, 446, 447, 448, 452, 453, 454, 455, 456, 457, 458, 459, 460, 461, 462, 463] (by decide +kernel) (by decide +kernel)) (goodIn_sub (fun _ h => List.mem_append_right _ h) (by decide +kernel))) (goodIn_sub (fun _ h => List.mem_append_left _ (List.mem_append_right _ h)) (by decide +kernel))
set_option maxRecDepth 20000 in
theorem gL_law_X1_dueIn : GoodIn wsL_law (wsV RL 126 RX1 yX1_dueIn wsX1_dueIn) := goodIn_app (goodIn_of _ (by decide +kernel)) ggL_law_X1_dueIn
set_option maxRecDepth 20000 in
theorem ggL_law_X1_pass : GoodIn wsL_law wsX1_pass := goodIn_ca (goodIn_r _ [192, 74, 75, 2, 76, 77, 78, 193, 194, 195, 196, 20, 19, 158, 197, 198, 199, 200, 201, 202, 203, 204, 21, 79, 80, 81, 18, 82, 83, 159, 160, 161, 162, 163, 164, 165, 166, 167, 168, 169, 170, 171, 172, 173, 174, 26, 205, 206, 207, 73, 208, 90, 209, 210, 211, 212, 89, 92, 446, 447, 448, 455, 456, 457, 458, 459, 460, 461, 462, 463, 452, 453, 454] (by decide +kernel) (by decide +kernel)) (goodIn_sub (fun _ h => List.mem_append_left _ (List.mem_append_right _ h)) (by decide +kernel))
set_option maxRecDepth 20000 in
theorem gL_law_X1_pass : GoodIn wsL_law (wsV RL 49 RX1 yX1_pass wsX1_pass) := goodIn_app (goodIn_of _ (by decide +kernel)) ggL_law_X1_pass
set_option maxRecDepth 20000 in
theorem ggL_law_X2_pass_ : GoodIn wsL_law wsX2_pass_ := goodIn_r _ [216, 217, 218, 219, 43, 220, 49, 221, 222, 223, 224, 225, 226, 50, 227, 228, 229, 230, 231, 232, 233, 234, 449, 450, 451] (by decide +kernel) (by decide +kernel)
set_option maxRecDepth 20000 in
theorem gL_law_X2_pass_ : GoodIn wsL_law (wsV RL 52 RX2 yX2_pass_ wsX2_pass_) := goodIn_app (goodIn_of _ (by decide +kernel)) ggL_law_X2_pass_
set_option maxRecDepth 20000 in
theorem ggL_law_X1_setLimit : GoodIn wsL_law wsX1_setLimit := goodIn_ca (goodIn_r _ [188, 21, 74, 75, 2, 76, 77, 78, 446, 447, 448] (by decide +kernel) (by decide +kernel)) (goodIn_sub (fun _ h => List.mem_append_left _ (List.mem_append_right _ h)) (by decide +kernel))
set_option maxRecDepth 20000 in
theorem gL_law_X1_setLimit : GoodIn wsL_law (wsV RL 45 RX1 yX1_setLimit wsX1_setLimit) := goodIn_app (goodIn_of _ (by decide +kernel)) ggL_law_X1_setLimit
set_option maxRecDepth 20000 in
theorem ggL_law_X2_isSame : GoodIn wsL_law wsX2_isSame := goodIn_ca (goodIn_ca (goodIn_r _ [413, 49, 221, 50, 222, 223, 224, 43, 225, 226, 227, 228, 229, 230, 231, 232, 233, 234, 414, 324, 325, 2, 326, 20, 152, 153, 154, 155, 156, 157, 19, 158, 79, 80, 81, 18, 82, 83, 159, 160, 161, 162, 163, 164, 165, 166, 167, 168, 169, 170, 171, 172, 173, 174, 26, 327, 210, 211, 73, 212, 89, 92, 415, 329, 330, 331, 205, 206, 207, 208, 90, 209, 416, 333, 334, 335, 197, 200, 201, 202, 203, 204, 21, 417, 337, 338, 339, 184, 418, 394, 395, 396, 151, 419, 341, 342, 343, 198, 420, 345, 346, 347, 199, 421, 373, 374, 375, 74, 75, 76, 77, 78, 422, 423, 424, 425, 426, 241, 242, 243, 427, 249, 250, 251, 428, 253, 254, 255, 429, 257, 258, 259, 430, 431, 432, 433, 434, 261, 262, 263, 264, 265, 266, 267, 268, 269, 270, 271, 272, 273, 274, 275, 276, 277, 6, 7, 8, 278, 140, 141, 279, 280, 281, 282, 435, 436, 437, 438, 439, 440, 441, 442, 443, 444, 445, 449, 450, 451, 446, 447, 448, 452, 453, 454, 455, 456, 457, 458, 459, 460, 461, 462, 463] (by decide +kernel) (by decide +kernel)) (goodIn_sub (fun _ h => List.mem_append_right _ h) (by decide +kernel))) (goodIn_sub (fun _ h => List.mem_append_left _ (List.mem_append_right _ h)) (by decide +kernel))
set_option maxRecDepth 20000 in
theorem gL_law_X2_isSame : GoodIn wsL_law (wsV RL 134 RX2 yX2_isSame wsX2_isSame) := goodIn_app (goodIn_of _ (by decide +kernel)) ggL_law_X2_isSame
theorem dL_law_0 : decode cL_law 0 = .ok (.new 26, 3) := by decide +kernel
theorem dL_law_3 : decode cL_law 3 = .ok (.dup, 1) := by decide +kernel
theorem dL_law_4 : decode cL_law 4 = .ok (.invokespecial 63, 3) := by decide +kernel
theorem dL_law_7 : decode cL_law 7 = .ok (.astore_n 1, 1) := by decide +kernel
theorem dL_law_8 : decode cL_law 8 = .ok (.aload_n 1, 1) := by decide +kernel
theorem dL_law_9 : decode cL_law 9 = .ok (.aload_n 0, 1) := by decide +kernel
theorem dL_law_10 : decode cL_law 10 = .ok (.invokestatic 64, 3) := by decide +kernel
theorem dL_law_13 : decode cL_law 13 = .ok (.astore_n 2, 1) := by decide +kernel
theorem dL_law_14 : decode cL_law 14 = .ok (.aload_n 2, 1) := by decide +kernel
theorem dL_law_15 : decode cL_law 15 = .ok (.ifnonnull 5, 3) := by decide +kernel
theorem dL_law_18 : decode cL_law 18 = .ok (.iconst 0, 1) := by decide +kernel
theorem dL_law_19 : decode cL_law 19 = .ok (.ireturn, 1) := by decide +kernel
theorem dL_law_20 : decode cL_law 20 = .ok (.iconst 0, 1) := by decide +kernel
theorem dL_law_21 : decode cL_law 21 = .ok (.istore_n 3, 1) := by decide +kernel
theorem dL_law_22 : decode cL_law 22 = .ok (.iload_n 3, 1) := by decide +kernel
theorem dL_law_23 : decode cL_law 23 = .ok (.bipush 7, 2) := by decide +kernel
theorem dL_law_25 : decode cL_law 25 = .ok (.if_icmp .ge 949, 3) := by decide +kernel
theorem dL_law_28 : decode cL_law 28 = .ok (.aload_n 0, 1) := by decide +kernel
theorem dL_law_29 : decode cL_law 29 = .ok (.iload_n 3, 1) := by decide +kernel
theorem dL_law_30 : decode cL_law 30 = .ok (.iconst 1, 1) := by decide +kernel
theorem dL_law_31 : decode cL_law 31 = .ok (.iadd, 1) := by decide +kernel
theorem dL_law_32 : decode cL_law 32 = .ok (.invokestatic 54, 3) := by decide +kernel
theorem dL_law_35 : decode cL_law 35 = .ok (.iconst 2, 1) := by decide +kernel
theorem dL_law_36 : decode cL_law 36 = .ok (.ishr, 1) := by decide +kernel
theorem dL_law_37 : decode cL_law 37 = .ok (.bipush 53, 2) := by decide +kernel
theorem dL_law_39 : decode cL_law 39 = .ok (.iload_n 3, 1) := by decide +kernel
theorem dL_law_40 : decode cL_law 40 = .ok (.imul, 1) := by decide +kernel
theorem dL_law_41 : decode cL_law 41 = .ok (.iadd, 1) := by decide +kernel
theorem dL_law_42 : decode cL_law 42 = .ok (.istore 4, 2) := by decide +kernel
theorem dL_law_44 : decode cL_law 44 = .ok (.iconst 0, 1) := by decide +kernel
theorem dL_law_45 : decode cL_law 45 = .ok (.istore 5, 2) := by decide +kernel
theorem dL_law_47 : decode cL_law 47 = .ok (.iload 5, 2) := by decide +kernel
theorem dL_law_49 : decode cL_law 49 = .ok (.iconst 3, 1) := by decide +kernel
theorem dL_law_50 : decode cL_law 50 = .ok (.if_icmp .ge 32, 3) := by decide +kernel
theorem dL_law_53 : decode cL_law 53 = .ok (.aload_n 1, 1) := by decide +kernel
theorem dL_law_54 : decode cL_law 54 = .ok (.aload_n 2, 1) := by decide +kernel
theorem dL_law_55 : decode cL_law 55 = .ok (.iload 4, 2) := by decide +kernel
theorem dL_law_57 : decode cL_law 57 = .ok (.iconst 3, 1) := by decide +kernel
theorem dL_law_58 : decode cL_law 58 = .ok (.iload 5, 2) := by decide +kernel
theorem dL_law_60 : decode cL_law 60 = .ok (.imul, 1) := by decide +kernel
theorem dL_law_61 : decode cL_law 61 = .ok (.ishr, 1) := by decide +kernel
theorem dL_law_62 : decode cL_law 62 = .ok (.bipush 29, 2) := by decide +kernel
theorem dL_law_64 : decode cL_law 64 = .ok (.iload 5, 2) := by decide +kernel
theorem dL_law_66 : decode cL_law 66 = .ok (.imul, 1) := by decide +kernel
theorem dL_law_67 : decode cL_law 67 = .ok (.iadd, 1) := by decide +kernel
theorem dL_law_68 : decode cL_law 68 = .ok (.invokestatic 59, 3) := by decide +kernel
theorem dL_law_71 : decode cL_law 71 = .ok (.ifCond .ne 5, 3) := by decide +kernel
theorem dL_law_74 : decode cL_law 74 = .ok (.iconst 0, 1) := by decide +kernel
theorem dL_law_75 : decode cL_law 75 = .ok (.ireturn, 1) := by decide +kernel
theorem dL_law_76 : decode cL_law 76 = .ok (.iinc 5 1, 3) := by decide +kernel
theorem dL_law_79 : decode cL_law 79 = .ok (.goto (-32), 3) := by decide +kernel
theorem dL_law_82 : decode cL_law 82 = .ok (.aload_n 1, 1) := by decide +kernel
theorem dL_law_83 : decode cL_law 83 = .ok (.invokevirtual 68, 3) := by decide +kernel
theorem dL_law_86 : decode cL_law 86 = .ok (.lstore 5, 2) := by decide +kernel
theorem dL_law_88 : decode cL_law 88 = .ok (.aload_n 1, 1) := by decide +kernel
theorem dL_law_89 : decode cL_law 89 = .ok (.invokevirtual 72, 3) := by decide +kernel
theorem dL_law_92 : decode cL_law 92 = .ok (.istore 7, 2) := by decide +kernel
theorem dL_law_94 : decode cL_law 94 = .ok (.iconst 0, 1) := by decide +kernel
theorem dL_law_95 : decode cL_law 95 = .ok (.istore 8, 2) := by decide +kernel
theorem dL_law_97 : decode cL_law 97 = .ok (.iconst 0, 1) := by decide +kernel
theorem dL_law_98 : decode cL_law 98 = .ok (.istore 9, 2) := by decide +kernel
theorem dL_law_100 : decode cL_law 100 = .ok (.iconst 0, 1) := by decide +kernel
theorem dL_law_101 : decode cL_law 101 = .ok (.istore 10, 2) := by decide +kernel
theorem dL_law_103 : decode cL_law 103 = .ok (.iconst 0, 1) := by decide +kernel
theorem dL_law_104 : decode cL_law 104 = .ok (.istore 11, 2) := by decide +kernel
theorem dL_law_106 : decode cL_law 106 = .ok (.iload 11, 2) := by decide +kernel
theorem dL_law_108 : decode cL_law 108 = .ok (.iload 7, 2) := by decide +kernel
theorem dL_law_110 : decode cL_law 110 = .ok (.if_icmp .ge 386, 3) := by decide +kernel
theorem dL_law_113 : decode cL_law 113 = .ok (.aload_n 2, 1) := by decide +kernel
theorem dL_law_114 : decode cL_law 114 = .ok (.getfield 9, 3) := by decide +kernel
theorem dL_law_117 : decode cL_law 117 = .ok (.iload 11, 2) := by decide +kernel
theorem dL_law_119 : decode cL_law 119 = .ok (.aaload, 1) := by decide +kernel
theorem dL_law_120 : decode cL_law 120 = .ok (.astore 12, 2) := by decide +kernel
theorem dL_law_122 : decode cL_law 122 = .ok (.aload_n 1, 1) := by decide +kernel
theorem dL_law_123 : decode cL_law 123 = .ok (.iload 11, 2) := by decide +kernel
theorem dL_law_125 : decode cL_law 125 = .ok (.invokevirtual 75, 3) := by decide +kernel
theorem dL_law_128 : decode cL_law 128 = .ok (.ifCond .lt 108, 3) := by decide +kernel
