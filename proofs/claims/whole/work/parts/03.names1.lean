set_option maxRecDepth 20000 in
theorem gX1_lampAt_Jx4a65c_get_915e3 : GoodIn wsX1_lampAt (wsV RX1 93 RJx4a65c yJx4a65c_get_915e3 wsJx4a65c_get_915e3) := goodIn_app (goodIn_of _ (by decide +kernel)) ggX1_lampAt_Jx4a65c_get_915e3
theorem dX1_lampAt_0 : decode cX1_lampAt 0 = .ok (.iload_n 1, 1) := by decide +kernel
theorem dX1_lampAt_1 : decode cX1_lampAt 1 = .ok (.ifCond .lt 14, 3) := by decide +kernel
theorem dX1_lampAt_4 : decode cX1_lampAt 4 = .ok (.iload_n 1, 1) := by decide +kernel
theorem dX1_lampAt_5 : decode cX1_lampAt 5 = .ok (.aload_n 0, 1) := by decide +kernel
theorem dX1_lampAt_6 : decode cX1_lampAt 6 = .ok (.getfield 10, 3) := by decide +kernel
theorem dX1_lampAt_9 : decode cX1_lampAt 9 = .ok (.invokevirtual 27, 3) := by decide +kernel
theorem dX1_lampAt_12 : decode cX1_lampAt 12 = .ok (.if_icmp .lt 13, 3) := by decide +kernel
theorem dX1_lampAt_15 : decode cX1_lampAt 15 = .ok (.new 179, 3) := by decide +kernel
theorem dX1_lampAt_18 : decode cX1_lampAt 18 = .ok (.dup, 1) := by decide +kernel
theorem dX1_lampAt_19 : decode cX1_lampAt 19 = .ok (.ldc 181, 2) := by decide +kernel
theorem dX1_lampAt_21 : decode cX1_lampAt 21 = .ok (.invokespecial 183, 3) := by decide +kernel
theorem dX1_lampAt_24 : decode cX1_lampAt 24 = .ok (.athrow, 1) := by decide +kernel
theorem dX1_lampAt_25 : decode cX1_lampAt 25 = .ok (.aload_n 0, 1) := by decide +kernel
theorem dX1_lampAt_26 : decode cX1_lampAt 26 = .ok (.getfield 10, 3) := by decide +kernel
theorem dX1_lampAt_29 : decode cX1_lampAt 29 = .ok (.iload_n 1, 1) := by decide +kernel
theorem dX1_lampAt_30 : decode cX1_lampAt 30 = .ok (.invokevirtual 93, 3) := by decide +kernel
theorem dX1_lampAt_33 : decode cX1_lampAt 33 = .ok (.checkcast 38, 3) := by decide +kernel
theorem dX1_lampAt_36 : decode cX1_lampAt 36 = .ok (.areturn, 1) := by decide +kernel
set_option maxRecDepth 20000 in
theorem ggX1_lightLamps_Jx4a65c_size_8abf5 : GoodIn wsX1_lightLamps wsJx4a65c_size_8abf5 := goodIn_r _ [10, 11, 53, 54, 55] (by decide +kernel) (by decide +kernel)
set_option maxRecDepth 20000 in
theorem gX1_lightLamps_Jx4a65c_size_8abf5 : GoodIn wsX1_lightLamps (wsV RX1 27 RJx4a65c yJx4a65c_size_8abf5 wsJx4a65c_size_8abf5) := goodIn_app (goodIn_of _ (by decide +kernel)) ggX1_lightLamps_Jx4a65c_size_8abf5
set_option maxRecDepth 20000 in
theorem ggX1_lightLamps_Jx4a65c_get_915e3 : GoodIn wsX1_lightLamps wsJx4a65c_get_915e3 := goodIn_r _ [15, 11, 16, 17, 18, 19, 20, 21, 22, 23, 24, 25, 26, 9, 27, 28, 53, 54, 55] (by decide +kernel) (by decide +kernel)
set_option maxRecDepth 20000 in
theorem gX1_lightLamps_Jx4a65c_get_915e3 : GoodIn wsX1_lightLamps (wsV RX1 93 RJx4a65c yJx4a65c_get_915e3 wsJx4a65c_get_915e3) := goodIn_app (goodIn_of _ (by decide +kernel)) ggX1_lightLamps_Jx4a65c_get_915e3
set_option maxRecDepth 20000 in
theorem ggX1_lightLamps_X0_dueAt : GoodIn wsX1_lightLamps wsX0_dueAt := goodIn_r _ [33, 34, 35, 36, 37, 32, 38, 39, 40, 44, 45, 46, 47, 48, 49, 50, 51, 52] (by decide +kernel) (by decide +kernel)
set_option maxRecDepth 20000 in
theorem gX1_lightLamps_X0_dueAt : GoodIn wsX1_lightLamps (wsV RX1 79 RX0 yX0_dueAt wsX0_dueAt) := goodIn_app (goodIn_of _ (by decide +kernel)) ggX1_lightLamps_X0_dueAt
theorem dX1_lightLamps_0 : decode cX1_lightLamps 0 = .ok (.iconst 0, 1) := by decide +kernel
theorem dX1_lightLamps_1 : decode cX1_lightLamps 1 = .ok (.istore_n 2, 1) := by decide +kernel
theorem dX1_lightLamps_2 : decode cX1_lightLamps 2 = .ok (.iconst 0, 1) := by decide +kernel
theorem dX1_lightLamps_3 : decode cX1_lightLamps 3 = .ok (.istore_n 3, 1) := by decide +kernel
theorem dX1_lightLamps_4 : decode cX1_lightLamps 4 = .ok (.iload_n 3, 1) := by decide +kernel
theorem dX1_lightLamps_5 : decode cX1_lightLamps 5 = .ok (.aload_n 0, 1) := by decide +kernel
theorem dX1_lightLamps_6 : decode cX1_lightLamps 6 = .ok (.getfield 10, 3) := by decide +kernel
theorem dX1_lightLamps_9 : decode cX1_lightLamps 9 = .ok (.invokevirtual 27, 3) := by decide +kernel
theorem dX1_lightLamps_12 : decode cX1_lightLamps 12 = .ok (.if_icmp .ge 71, 3) := by decide +kernel
theorem dX1_lightLamps_15 : decode cX1_lightLamps 15 = .ok (.aload_n 0, 1) := by decide +kernel
theorem dX1_lightLamps_16 : decode cX1_lightLamps 16 = .ok (.getfield 10, 3) := by decide +kernel
theorem dX1_lightLamps_19 : decode cX1_lightLamps 19 = .ok (.iload_n 3, 1) := by decide +kernel
theorem dX1_lightLamps_20 : decode cX1_lightLamps 20 = .ok (.invokevirtual 93, 3) := by decide +kernel
theorem dX1_lightLamps_23 : decode cX1_lightLamps 23 = .ok (.checkcast 38, 3) := by decide +kernel
theorem dX1_lightLamps_26 : decode cX1_lightLamps 26 = .ok (.astore 4, 2) := by decide +kernel
theorem dX1_lightLamps_28 : decode cX1_lightLamps 28 = .ok (.aload 4, 2) := by decide +kernel
theorem dX1_lightLamps_30 : decode cX1_lightLamps 30 = .ok (.aload 4, 2) := by decide +kernel
theorem dX1_lightLamps_32 : decode cX1_lightLamps 32 = .ok (.iload_n 1, 1) := by decide +kernel
theorem dX1_lightLamps_33 : decode cX1_lightLamps 33 = .ok (.invokevirtual 79, 3) := by decide +kernel
theorem dX1_lightLamps_36 : decode cX1_lightLamps 36 = .ok (.ifCond .eq 21, 3) := by decide +kernel
theorem dX1_lightLamps_39 : decode cX1_lightLamps 39 = .ok (.iload_n 2, 1) := by decide +kernel
theorem dX1_lightLamps_40 : decode cX1_lightLamps 40 = .ok (.aload 4, 2) := by decide +kernel
theorem dX1_lightLamps_42 : decode cX1_lightLamps 42 = .ok (.getfield 184, 3) := by decide +kernel
theorem dX1_lightLamps_45 : decode cX1_lightLamps 45 = .ok (.iadd, 1) := by decide +kernel
theorem dX1_lightLamps_46 : decode cX1_lightLamps 46 = .ok (.aload_n 0, 1) := by decide +kernel
theorem dX1_lightLamps_47 : decode cX1_lightLamps 47 = .ok (.getfield 20, 3) := by decide +kernel
theorem dX1_lightLamps_50 : decode cX1_lightLamps 50 = .ok (.if_icmp .gt 7, 3) := by decide +kernel
theorem dX1_lightLamps_53 : decode cX1_lightLamps 53 = .ok (.iconst 1, 1) := by decide +kernel
theorem dX1_lightLamps_54 : decode cX1_lightLamps 54 = .ok (.goto 4, 3) := by decide +kernel
theorem dX1_lightLamps_57 : decode cX1_lightLamps 57 = .ok (.iconst 0, 1) := by decide +kernel
theorem dX1_lightLamps_58 : decode cX1_lightLamps 58 = .ok (.putfield 83, 3) := by decide +kernel
theorem dX1_lightLamps_61 : decode cX1_lightLamps 61 = .ok (.aload 4, 2) := by decide +kernel
theorem dX1_lightLamps_63 : decode cX1_lightLamps 63 = .ok (.getfield 83, 3) := by decide +kernel
theorem dX1_lightLamps_66 : decode cX1_lightLamps 66 = .ok (.ifCond .eq 11, 3) := by decide +kernel
theorem dX1_lightLamps_69 : decode cX1_lightLamps 69 = .ok (.iload_n 2, 1) := by decide +kernel
theorem dX1_lightLamps_70 : decode cX1_lightLamps 70 = .ok (.aload 4, 2) := by decide +kernel
theorem dX1_lightLamps_72 : decode cX1_lightLamps 72 = .ok (.getfield 184, 3) := by decide +kernel
theorem dX1_lightLamps_75 : decode cX1_lightLamps 75 = .ok (.iadd, 1) := by decide +kernel
theorem dX1_lightLamps_76 : decode cX1_lightLamps 76 = .ok (.istore_n 2, 1) := by decide +kernel
theorem dX1_lightLamps_77 : decode cX1_lightLamps 77 = .ok (.iinc 3 1, 3) := by decide +kernel
theorem dX1_lightLamps_80 : decode cX1_lightLamps 80 = .ok (.goto (-76), 3) := by decide +kernel
theorem dX1_lightLamps_83 : decode cX1_lightLamps 83 = .ok (.iload_n 2, 1) := by decide +kernel
theorem dX1_lightLamps_84 : decode cX1_lightLamps 84 = .ok (.ireturn, 1) := by decide +kernel
set_option maxRecDepth 20000 in
theorem ggX1_duePower_Jx4a65c_size_8abf5 : GoodIn wsX1_duePower wsJx4a65c_size_8abf5 := goodIn_r _ [8, 9, 51, 52, 53] (by decide +kernel) (by decide +kernel)
set_option maxRecDepth 20000 in
theorem gX1_duePower_Jx4a65c_size_8abf5 : GoodIn wsX1_duePower (wsV RX1 27 RJx4a65c yJx4a65c_size_8abf5 wsJx4a65c_size_8abf5) := goodIn_app (goodIn_of _ (by decide +kernel)) ggX1_duePower_Jx4a65c_size_8abf5
set_option maxRecDepth 20000 in
theorem ggX1_duePower_Jx4a65c_get_915e3 : GoodIn wsX1_duePower wsJx4a65c_get_915e3 := goodIn_r _ [13, 9, 14, 15, 16, 17, 18, 19, 20, 21, 22, 23, 24, 7, 25, 26, 51, 52, 53] (by decide +kernel) (by decide +kernel)
set_option maxRecDepth 20000 in
theorem gX1_duePower_Jx4a65c_get_915e3 : GoodIn wsX1_duePower (wsV RX1 93 RJx4a65c yJx4a65c_get_915e3 wsJx4a65c_get_915e3) := goodIn_app (goodIn_of _ (by decide +kernel)) ggX1_duePower_Jx4a65c_get_915e3
set_option maxRecDepth 20000 in
theorem ggX1_duePower_X0_dueAt : GoodIn wsX1_duePower wsX0_dueAt := goodIn_r _ [31, 32, 33, 34, 35, 30, 36, 37, 38, 42, 43, 44, 45, 46, 47, 48, 49, 50] (by decide +kernel) (by decide +kernel)
set_option maxRecDepth 20000 in
theorem gX1_duePower_X0_dueAt : GoodIn wsX1_duePower (wsV RX1 79 RX0 yX0_dueAt wsX0_dueAt) := goodIn_app (goodIn_of _ (by decide +kernel)) ggX1_duePower_X0_dueAt
theorem dX1_duePower_0 : decode cX1_duePower 0 = .ok (.iconst 0, 1) := by decide +kernel
theorem dX1_duePower_1 : decode cX1_duePower 1 = .ok (.istore_n 2, 1) := by decide +kernel
theorem dX1_duePower_2 : decode cX1_duePower 2 = .ok (.iconst 0, 1) := by decide +kernel
theorem dX1_duePower_3 : decode cX1_duePower 3 = .ok (.istore_n 3, 1) := by decide +kernel
theorem dX1_duePower_4 : decode cX1_duePower 4 = .ok (.iload_n 3, 1) := by decide +kernel
theorem dX1_duePower_5 : decode cX1_duePower 5 = .ok (.aload_n 0, 1) := by decide +kernel
theorem dX1_duePower_6 : decode cX1_duePower 6 = .ok (.getfield 10, 3) := by decide +kernel
theorem dX1_duePower_9 : decode cX1_duePower 9 = .ok (.invokevirtual 27, 3) := by decide +kernel
theorem dX1_duePower_12 : decode cX1_duePower 12 = .ok (.if_icmp .ge 39, 3) := by decide +kernel
theorem dX1_duePower_15 : decode cX1_duePower 15 = .ok (.aload_n 0, 1) := by decide +kernel
theorem dX1_duePower_16 : decode cX1_duePower 16 = .ok (.getfield 10, 3) := by decide +kernel
theorem dX1_duePower_19 : decode cX1_duePower 19 = .ok (.iload_n 3, 1) := by decide +kernel
theorem dX1_duePower_20 : decode cX1_duePower 20 = .ok (.invokevirtual 93, 3) := by decide +kernel
theorem dX1_duePower_23 : decode cX1_duePower 23 = .ok (.checkcast 38, 3) := by decide +kernel
theorem dX1_duePower_26 : decode cX1_duePower 26 = .ok (.astore 4, 2) := by decide +kernel
theorem dX1_duePower_28 : decode cX1_duePower 28 = .ok (.aload 4, 2) := by decide +kernel
theorem dX1_duePower_30 : decode cX1_duePower 30 = .ok (.iload_n 1, 1) := by decide +kernel
theorem dX1_duePower_31 : decode cX1_duePower 31 = .ok (.invokevirtual 79, 3) := by decide +kernel
theorem dX1_duePower_34 : decode cX1_duePower 34 = .ok (.ifCond .eq 11, 3) := by decide +kernel
theorem dX1_duePower_37 : decode cX1_duePower 37 = .ok (.iload_n 2, 1) := by decide +kernel
theorem dX1_duePower_38 : decode cX1_duePower 38 = .ok (.aload 4, 2) := by decide +kernel
theorem dX1_duePower_40 : decode cX1_duePower 40 = .ok (.getfield 184, 3) := by decide +kernel
theorem dX1_duePower_43 : decode cX1_duePower 43 = .ok (.iadd, 1) := by decide +kernel
theorem dX1_duePower_44 : decode cX1_duePower 44 = .ok (.istore_n 2, 1) := by decide +kernel
theorem dX1_duePower_45 : decode cX1_duePower 45 = .ok (.iinc 3 1, 3) := by decide +kernel
theorem dX1_duePower_48 : decode cX1_duePower 48 = .ok (.goto (-44), 3) := by decide +kernel
theorem dX1_duePower_51 : decode cX1_duePower 51 = .ok (.iload_n 2, 1) := by decide +kernel
theorem dX1_duePower_52 : decode cX1_duePower 52 = .ok (.ireturn, 1) := by decide +kernel
set_option maxRecDepth 20000 in
theorem ggX1_playBeat_X1_lightLamps : GoodIn wsX1_playBeat wsX1_lightLamps := goodIn_r _ [11, 2, 3, 12, 13, 4, 14, 15, 16, 17, 18, 19, 20, 21, 22, 23, 24, 25, 26, 27, 28, 29, 30, 31, 32, 33, 34, 35, 36, 37, 38, 39, 40, 41, 42, 43, 44, 45, 46, 47, 48, 49, 50, 51, 52, 53, 54, 55, 56, 57, 58, 59, 60, 61, 62, 63] (by decide +kernel) (by decide +kernel)
set_option maxRecDepth 20000 in
theorem gX1_playBeat_X1_lightLamps : GoodIn wsX1_playBeat (wsV RX1 72 RX1 yX1_lightLamps wsX1_lightLamps) := goodIn_app (goodIn_of _ (by decide +kernel)) ggX1_playBeat_X1_lightLamps
set_option maxRecDepth 20000 in
theorem ggX1_playBeat_Jx4a65c_size_8abf5 : GoodIn wsX1_playBeat wsJx4a65c_size_8abf5 := goodIn_r _ [18, 19, 61, 62, 63] (by decide +kernel) (by decide +kernel)
set_option maxRecDepth 20000 in
theorem gX1_playBeat_Jx4a65c_size_8abf5 : GoodIn wsX1_playBeat (wsV RX1 27 RJx4a65c yJx4a65c_size_8abf5 wsJx4a65c_size_8abf5) := goodIn_app (goodIn_of _ (by decide +kernel)) ggX1_playBeat_Jx4a65c_size_8abf5
set_option maxRecDepth 20000 in
theorem ggX1_playBeat_Jx4a65c_get_915e3 : GoodIn wsX1_playBeat wsJx4a65c_get_915e3 := goodIn_r _ [23, 19, 24, 25, 26, 27, 28, 29, 30, 31, 32, 33, 34, 17, 35, 36, 61, 62, 63] (by decide +kernel) (by decide +kernel)
set_option maxRecDepth 20000 in
theorem gX1_playBeat_Jx4a65c_get_915e3 : GoodIn wsX1_playBeat (wsV RX1 93 RJx4a65c yJx4a65c_get_915e3 wsJx4a65c_get_915e3) := goodIn_app (goodIn_of _ (by decide +kernel)) ggX1_playBeat_Jx4a65c_get_915e3
set_option maxRecDepth 20000 in
theorem ggX1_playBeat_X0_dueAt : GoodIn wsX1_playBeat wsX0_dueAt := goodIn_r _ [41, 42, 43, 44, 45, 40, 46, 47, 48, 52, 53, 54, 55, 56, 57, 58, 59, 60] (by decide +kernel) (by decide +kernel)
set_option maxRecDepth 20000 in
theorem gX1_playBeat_X0_dueAt : GoodIn wsX1_playBeat (wsV RX1 79 RX0 yX0_dueAt wsX0_dueAt) := goodIn_app (goodIn_of _ (by decide +kernel)) ggX1_playBeat_X0_dueAt
theorem dX1_playBeat_0 : decode cX1_playBeat 0 = .ok (.aload_n 0, 1) := by decide +kernel
theorem dX1_playBeat_1 : decode cX1_playBeat 1 = .ok (.aload_n 0, 1) := by decide +kernel
theorem dX1_playBeat_2 : decode cX1_playBeat 2 = .ok (.getfield 16, 3) := by decide +kernel
theorem dX1_playBeat_5 : decode cX1_playBeat 5 = .ok (.invokevirtual 72, 3) := by decide +kernel
theorem dX1_playBeat_8 : decode cX1_playBeat 8 = .ok (.pop, 1) := by decide +kernel
theorem dX1_playBeat_9 : decode cX1_playBeat 9 = .ok (.iconst 0, 1) := by decide +kernel
theorem dX1_playBeat_10 : decode cX1_playBeat 10 = .ok (.istore_n 1, 1) := by decide +kernel
theorem dX1_playBeat_11 : decode cX1_playBeat 11 = .ok (.iconst 0, 1) := by decide +kernel
theorem dX1_playBeat_12 : decode cX1_playBeat 12 = .ok (.istore_n 2, 1) := by decide +kernel
theorem dX1_playBeat_13 : decode cX1_playBeat 13 = .ok (.iload_n 2, 1) := by decide +kernel
theorem dX1_playBeat_14 : decode cX1_playBeat 14 = .ok (.aload_n 0, 1) := by decide +kernel
theorem dX1_playBeat_15 : decode cX1_playBeat 15 = .ok (.getfield 10, 3) := by decide +kernel
theorem dX1_playBeat_18 : decode cX1_playBeat 18 = .ok (.invokevirtual 27, 3) := by decide +kernel
theorem dX1_playBeat_21 : decode cX1_playBeat 21 = .ok (.if_icmp .ge 64, 3) := by decide +kernel
theorem dX1_playBeat_24 : decode cX1_playBeat 24 = .ok (.aload_n 0, 1) := by decide +kernel
theorem dX1_playBeat_25 : decode cX1_playBeat 25 = .ok (.getfield 10, 3) := by decide +kernel
theorem dX1_playBeat_28 : decode cX1_playBeat 28 = .ok (.iload_n 2, 1) := by decide +kernel
theorem dX1_playBeat_29 : decode cX1_playBeat 29 = .ok (.invokevirtual 93, 3) := by decide +kernel
theorem dX1_playBeat_32 : decode cX1_playBeat 32 = .ok (.checkcast 38, 3) := by decide +kernel
theorem dX1_playBeat_35 : decode cX1_playBeat 35 = .ok (.astore_n 3, 1) := by decide +kernel
theorem dX1_playBeat_36 : decode cX1_playBeat 36 = .ok (.aload_n 3, 1) := by decide +kernel
theorem dX1_playBeat_37 : decode cX1_playBeat 37 = .ok (.getfield 83, 3) := by decide +kernel
theorem dX1_playBeat_40 : decode cX1_playBeat 40 = .ok (.ifCond .eq 16, 3) := by decide +kernel
theorem dX1_playBeat_43 : decode cX1_playBeat 43 = .ok (.aload_n 3, 1) := by decide +kernel
theorem dX1_playBeat_44 : decode cX1_playBeat 44 = .ok (.dup, 1) := by decide +kernel
theorem dX1_playBeat_45 : decode cX1_playBeat 45 = .ok (.getfield 87, 3) := by decide +kernel
theorem dX1_playBeat_48 : decode cX1_playBeat 48 = .ok (.iconst 1, 1) := by decide +kernel
theorem dX1_playBeat_49 : decode cX1_playBeat 49 = .ok (.iadd, 1) := by decide +kernel
theorem dX1_playBeat_50 : decode cX1_playBeat 50 = .ok (.putfield 87, 3) := by decide +kernel
theorem dX1_playBeat_53 : decode cX1_playBeat 53 = .ok (.goto 26, 3) := by decide +kernel
theorem dX1_playBeat_56 : decode cX1_playBeat 56 = .ok (.aload_n 3, 1) := by decide +kernel
theorem dX1_playBeat_57 : decode cX1_playBeat 57 = .ok (.aload_n 0, 1) := by decide +kernel
theorem dX1_playBeat_58 : decode cX1_playBeat 58 = .ok (.getfield 16, 3) := by decide +kernel
theorem dX1_playBeat_61 : decode cX1_playBeat 61 = .ok (.invokevirtual 79, 3) := by decide +kernel
theorem dX1_playBeat_64 : decode cX1_playBeat 64 = .ok (.ifCond .eq 15, 3) := by decide +kernel
theorem dX1_playBeat_67 : decode cX1_playBeat 67 = .ok (.aload_n 3, 1) := by decide +kernel
theorem dX1_playBeat_68 : decode cX1_playBeat 68 = .ok (.dup, 1) := by decide +kernel
theorem dX1_playBeat_69 : decode cX1_playBeat 69 = .ok (.getfield 90, 3) := by decide +kernel
theorem dX1_playBeat_72 : decode cX1_playBeat 72 = .ok (.iconst 1, 1) := by decide +kernel
theorem dX1_playBeat_73 : decode cX1_playBeat 73 = .ok (.iadd, 1) := by decide +kernel
theorem dX1_playBeat_74 : decode cX1_playBeat 74 = .ok (.putfield 90, 3) := by decide +kernel
theorem dX1_playBeat_77 : decode cX1_playBeat 77 = .ok (.iconst 1, 1) := by decide +kernel
theorem dX1_playBeat_78 : decode cX1_playBeat 78 = .ok (.istore_n 1, 1) := by decide +kernel
theorem dX1_playBeat_79 : decode cX1_playBeat 79 = .ok (.iinc 2 1, 3) := by decide +kernel
theorem dX1_playBeat_82 : decode cX1_playBeat 82 = .ok (.goto (-69), 3) := by decide +kernel
theorem dX1_playBeat_85 : decode cX1_playBeat 85 = .ok (.aload_n 0, 1) := by decide +kernel
theorem dX1_playBeat_86 : decode cX1_playBeat 86 = .ok (.dup, 1) := by decide +kernel
theorem dX1_playBeat_87 : decode cX1_playBeat 87 = .ok (.getfield 16, 3) := by decide +kernel
theorem dX1_playBeat_90 : decode cX1_playBeat 90 = .ok (.iconst 1, 1) := by decide +kernel
theorem dX1_playBeat_91 : decode cX1_playBeat 91 = .ok (.iadd, 1) := by decide +kernel
theorem dX1_playBeat_92 : decode cX1_playBeat 92 = .ok (.putfield 16, 3) := by decide +kernel
theorem dX1_playBeat_95 : decode cX1_playBeat 95 = .ok (.iload_n 1, 1) := by decide +kernel
theorem dX1_playBeat_96 : decode cX1_playBeat 96 = .ok (.ireturn, 1) := by decide +kernel
set_option maxRecDepth 20000 in
theorem ggX1_unfairnessBehind_Jx4a65c_size_8abf5 : GoodIn wsX1_unfairnessBehind wsJx4a65c_size_8abf5 := goodIn_r _ [10, 11, 81, 82, 83] (by decide +kernel) (by decide +kernel)
set_option maxRecDepth 20000 in
theorem gX1_unfairnessBehind_Jx4a65c_size_8abf5 : GoodIn wsX1_unfairnessBehind (wsV RX1 27 RJx4a65c yJx4a65c_size_8abf5 wsJx4a65c_size_8abf5) := goodIn_app (goodIn_of _ (by decide +kernel)) ggX1_unfairnessBehind_Jx4a65c_size_8abf5
set_option maxRecDepth 20000 in
theorem ggX1_unfairnessBehind_Jx4a65c_get_915e3 : GoodIn wsX1_unfairnessBehind wsJx4a65c_get_915e3 := goodIn_r _ [15, 11, 16, 17, 18, 19, 20, 21, 22, 23, 24, 25, 26, 9, 27, 28, 81, 82, 83] (by decide +kernel) (by decide +kernel)
set_option maxRecDepth 20000 in
theorem gX1_unfairnessBehind_Jx4a65c_get_915e3 : GoodIn wsX1_unfairnessBehind (wsV RX1 93 RJx4a65c yJx4a65c_get_915e3 wsJx4a65c_get_915e3) := goodIn_app (goodIn_of _ (by decide +kernel)) ggX1_unfairnessBehind_Jx4a65c_get_915e3
set_option maxRecDepth 20000 in
theorem ggX1_unfairnessBehind_X1_foreseeBeat : GoodIn wsX1_unfairnessBehind wsX1_foreseeBeat := goodIn_r _ [33, 1, 2, 34, 4, 35, 36, 37, 32, 38, 39, 40, 6, 7, 8, 9, 10, 11, 12, 13, 14, 15, 16, 17, 18, 19, 20, 21, 22, 23, 24, 25, 26, 27, 28, 41, 42, 43, 44, 45, 46, 47, 48, 49, 50, 51, 52, 69, 70, 71, 72, 73, 74, 75, 76, 77, 78, 79, 80, 81, 82, 83] (by decide +kernel) (by decide +kernel)
set_option maxRecDepth 20000 in
theorem gX1_unfairnessBehind_X1_foreseeBeat : GoodIn wsX1_unfairnessBehind (wsV RX1 189 RX1 yX1_foreseeBeat wsX1_foreseeBeat) := goodIn_app (goodIn_of _ (by decide +kernel)) ggX1_unfairnessBehind_X1_foreseeBeat
set_option maxRecDepth 20000 in
theorem ggX1_unfairnessBehind_X1_foreseenSpread : GoodIn wsX1_unfairnessBehind wsX1_foreseenSpread := goodIn_r _ [56, 57, 58, 59, 60, 61, 62, 63, 64, 65, 66, 32, 67, 1, 2, 68, 4, 6, 7, 8, 9, 10, 11, 12, 13, 14, 15, 16, 17, 18, 19, 20, 21, 22, 23, 24, 25, 26, 27, 28, 69, 70, 71, 72, 73, 74, 75, 76, 77, 78, 79, 80, 81, 82, 83] (by decide +kernel) (by decide +kernel)
set_option maxRecDepth 20000 in
theorem gX1_unfairnessBehind_X1_foreseenSpread : GoodIn wsX1_unfairnessBehind (wsV RX1 193 RX1 yX1_foreseenSpread wsX1_foreseenSpread) := goodIn_app (goodIn_of _ (by decide +kernel)) ggX1_unfairnessBehind_X1_foreseenSpread
theorem dX1_unfairnessBehind_0 : decode cX1_unfairnessBehind 0 = .ok (.iconst 0, 1) := by decide +kernel
theorem dX1_unfairnessBehind_1 : decode cX1_unfairnessBehind 1 = .ok (.istore_n 2, 1) := by decide +kernel
theorem dX1_unfairnessBehind_2 : decode cX1_unfairnessBehind 2 = .ok (.iload_n 2, 1) := by decide +kernel
theorem dX1_unfairnessBehind_3 : decode cX1_unfairnessBehind 3 = .ok (.aload_n 0, 1) := by decide +kernel
theorem dX1_unfairnessBehind_4 : decode cX1_unfairnessBehind 4 = .ok (.getfield 10, 3) := by decide +kernel
theorem dX1_unfairnessBehind_7 : decode cX1_unfairnessBehind 7 = .ok (.invokevirtual 27, 3) := by decide +kernel
theorem dX1_unfairnessBehind_10 : decode cX1_unfairnessBehind 10 = .ok (.if_icmp .ge 29, 3) := by decide +kernel
theorem dX1_unfairnessBehind_13 : decode cX1_unfairnessBehind 13 = .ok (.aload_n 0, 1) := by decide +kernel
theorem dX1_unfairnessBehind_14 : decode cX1_unfairnessBehind 14 = .ok (.getfield 10, 3) := by decide +kernel
theorem dX1_unfairnessBehind_17 : decode cX1_unfairnessBehind 17 = .ok (.iload_n 2, 1) := by decide +kernel
theorem dX1_unfairnessBehind_18 : decode cX1_unfairnessBehind 18 = .ok (.invokevirtual 93, 3) := by decide +kernel
theorem dX1_unfairnessBehind_21 : decode cX1_unfairnessBehind 21 = .ok (.checkcast 38, 3) := by decide +kernel
theorem dX1_unfairnessBehind_24 : decode cX1_unfairnessBehind 24 = .ok (.astore_n 3, 1) := by decide +kernel
theorem dX1_unfairnessBehind_25 : decode cX1_unfairnessBehind 25 = .ok (.aload_n 3, 1) := by decide +kernel
theorem dX1_unfairnessBehind_26 : decode cX1_unfairnessBehind 26 = .ok (.aload_n 3, 1) := by decide +kernel
theorem dX1_unfairnessBehind_27 : decode cX1_unfairnessBehind 27 = .ok (.getfield 87, 3) := by decide +kernel
theorem dX1_unfairnessBehind_30 : decode cX1_unfairnessBehind 30 = .ok (.putfield 186, 3) := by decide +kernel
theorem dX1_unfairnessBehind_33 : decode cX1_unfairnessBehind 33 = .ok (.iinc 2 1, 3) := by decide +kernel
theorem dX1_unfairnessBehind_36 : decode cX1_unfairnessBehind 36 = .ok (.goto (-34), 3) := by decide +kernel
theorem dX1_unfairnessBehind_39 : decode cX1_unfairnessBehind 39 = .ok (.iconst 0, 1) := by decide +kernel
theorem dX1_unfairnessBehind_40 : decode cX1_unfairnessBehind 40 = .ok (.istore_n 2, 1) := by decide +kernel
theorem dX1_unfairnessBehind_41 : decode cX1_unfairnessBehind 41 = .ok (.iload_n 2, 1) := by decide +kernel
theorem dX1_unfairnessBehind_42 : decode cX1_unfairnessBehind 42 = .ok (.iload_n 1, 1) := by decide +kernel
theorem dX1_unfairnessBehind_43 : decode cX1_unfairnessBehind 43 = .ok (.if_icmp .ge 19, 3) := by decide +kernel
theorem dX1_unfairnessBehind_46 : decode cX1_unfairnessBehind 46 = .ok (.aload_n 0, 1) := by decide +kernel
theorem dX1_unfairnessBehind_47 : decode cX1_unfairnessBehind 47 = .ok (.aload_n 0, 1) := by decide +kernel
theorem dX1_unfairnessBehind_48 : decode cX1_unfairnessBehind 48 = .ok (.getfield 16, 3) := by decide +kernel
theorem dX1_unfairnessBehind_51 : decode cX1_unfairnessBehind 51 = .ok (.iload_n 2, 1) := by decide +kernel
theorem dX1_unfairnessBehind_52 : decode cX1_unfairnessBehind 52 = .ok (.iadd, 1) := by decide +kernel
theorem dX1_unfairnessBehind_53 : decode cX1_unfairnessBehind 53 = .ok (.invokevirtual 189, 3) := by decide +kernel
theorem dX1_unfairnessBehind_56 : decode cX1_unfairnessBehind 56 = .ok (.iinc 2 1, 3) := by decide +kernel
theorem dX1_unfairnessBehind_59 : decode cX1_unfairnessBehind 59 = .ok (.goto (-18), 3) := by decide +kernel
theorem dX1_unfairnessBehind_62 : decode cX1_unfairnessBehind 62 = .ok (.aload_n 0, 1) := by decide +kernel
theorem dX1_unfairnessBehind_63 : decode cX1_unfairnessBehind 63 = .ok (.invokevirtual 193, 3) := by decide +kernel
theorem dX1_unfairnessBehind_66 : decode cX1_unfairnessBehind 66 = .ok (.ireturn, 1) := by decide +kernel
set_option maxRecDepth 20000 in
theorem ggX1_foreseeBeat_X1_lightLamps : GoodIn wsX1_foreseeBeat wsX1_lightLamps := goodIn_r _ [9, 1, 2, 10, 11, 3, 12, 13, 14, 15, 16, 17, 18, 19, 20, 21, 22, 23, 24, 25, 26, 27, 28, 29, 30, 31, 32, 33, 34, 35, 36, 37, 38, 39, 40, 41, 42, 43, 44, 45, 46, 47, 48, 49, 50, 51, 52, 53, 54, 55, 56, 57, 58, 59, 60, 61] (by decide +kernel) (by decide +kernel)
set_option maxRecDepth 20000 in
theorem gX1_foreseeBeat_X1_lightLamps : GoodIn wsX1_foreseeBeat (wsV RX1 72 RX1 yX1_lightLamps wsX1_lightLamps) := goodIn_app (goodIn_of _ (by decide +kernel)) ggX1_foreseeBeat_X1_lightLamps
set_option maxRecDepth 20000 in
theorem ggX1_foreseeBeat_Jx4a65c_size_8abf5 : GoodIn wsX1_foreseeBeat wsJx4a65c_size_8abf5 := goodIn_r _ [16, 17, 59, 60, 61] (by decide +kernel) (by decide +kernel)
set_option maxRecDepth 20000 in
theorem gX1_foreseeBeat_Jx4a65c_size_8abf5 : GoodIn wsX1_foreseeBeat (wsV RX1 27 RJx4a65c yJx4a65c_size_8abf5 wsJx4a65c_size_8abf5) := goodIn_app (goodIn_of _ (by decide +kernel)) ggX1_foreseeBeat_Jx4a65c_size_8abf5
set_option maxRecDepth 20000 in
theorem ggX1_foreseeBeat_Jx4a65c_get_915e3 : GoodIn wsX1_foreseeBeat wsJx4a65c_get_915e3 := goodIn_r _ [21, 17, 22, 23, 24, 25, 26, 27, 28, 29, 30, 31, 32, 15, 33, 34, 59, 60, 61] (by decide +kernel) (by decide +kernel)
set_option maxRecDepth 20000 in
theorem gX1_foreseeBeat_Jx4a65c_get_915e3 : GoodIn wsX1_foreseeBeat (wsV RX1 93 RJx4a65c yJx4a65c_get_915e3 wsJx4a65c_get_915e3) := goodIn_app (goodIn_of _ (by decide +kernel)) ggX1_foreseeBeat_Jx4a65c_get_915e3
theorem dX1_foreseeBeat_0 : decode cX1_foreseeBeat 0 = .ok (.aload_n 0, 1) := by decide +kernel
theorem dX1_foreseeBeat_1 : decode cX1_foreseeBeat 1 = .ok (.iload_n 1, 1) := by decide +kernel
theorem dX1_foreseeBeat_2 : decode cX1_foreseeBeat 2 = .ok (.invokevirtual 72, 3) := by decide +kernel
theorem dX1_foreseeBeat_5 : decode cX1_foreseeBeat 5 = .ok (.pop, 1) := by decide +kernel
theorem dX1_foreseeBeat_6 : decode cX1_foreseeBeat 6 = .ok (.iconst 0, 1) := by decide +kernel
theorem dX1_foreseeBeat_7 : decode cX1_foreseeBeat 7 = .ok (.istore_n 2, 1) := by decide +kernel
theorem dX1_foreseeBeat_8 : decode cX1_foreseeBeat 8 = .ok (.iload_n 2, 1) := by decide +kernel
theorem dX1_foreseeBeat_9 : decode cX1_foreseeBeat 9 = .ok (.aload_n 0, 1) := by decide +kernel
theorem dX1_foreseeBeat_10 : decode cX1_foreseeBeat 10 = .ok (.getfield 10, 3) := by decide +kernel
theorem dX1_foreseeBeat_13 : decode cX1_foreseeBeat 13 = .ok (.invokevirtual 27, 3) := by decide +kernel
theorem dX1_foreseeBeat_16 : decode cX1_foreseeBeat 16 = .ok (.if_icmp .ge 38, 3) := by decide +kernel
theorem dX1_foreseeBeat_19 : decode cX1_foreseeBeat 19 = .ok (.aload_n 0, 1) := by decide +kernel
theorem dX1_foreseeBeat_20 : decode cX1_foreseeBeat 20 = .ok (.getfield 10, 3) := by decide +kernel
theorem dX1_foreseeBeat_23 : decode cX1_foreseeBeat 23 = .ok (.iload_n 2, 1) := by decide +kernel
theorem dX1_foreseeBeat_24 : decode cX1_foreseeBeat 24 = .ok (.invokevirtual 93, 3) := by decide +kernel
theorem dX1_foreseeBeat_27 : decode cX1_foreseeBeat 27 = .ok (.checkcast 38, 3) := by decide +kernel
theorem dX1_foreseeBeat_30 : decode cX1_foreseeBeat 30 = .ok (.astore_n 3, 1) := by decide +kernel
theorem dX1_foreseeBeat_31 : decode cX1_foreseeBeat 31 = .ok (.aload_n 3, 1) := by decide +kernel
theorem dX1_foreseeBeat_32 : decode cX1_foreseeBeat 32 = .ok (.getfield 83, 3) := by decide +kernel
theorem dX1_foreseeBeat_35 : decode cX1_foreseeBeat 35 = .ok (.ifCond .eq 13, 3) := by decide +kernel
theorem dX1_foreseeBeat_38 : decode cX1_foreseeBeat 38 = .ok (.aload_n 3, 1) := by decide +kernel
theorem dX1_foreseeBeat_39 : decode cX1_foreseeBeat 39 = .ok (.dup, 1) := by decide +kernel
theorem dX1_foreseeBeat_40 : decode cX1_foreseeBeat 40 = .ok (.getfield 186, 3) := by decide +kernel
theorem dX1_foreseeBeat_43 : decode cX1_foreseeBeat 43 = .ok (.iconst 1, 1) := by decide +kernel
theorem dX1_foreseeBeat_44 : decode cX1_foreseeBeat 44 = .ok (.iadd, 1) := by decide +kernel
theorem dX1_foreseeBeat_45 : decode cX1_foreseeBeat 45 = .ok (.putfield 186, 3) := by decide +kernel
theorem dX1_foreseeBeat_48 : decode cX1_foreseeBeat 48 = .ok (.iinc 2 1, 3) := by decide +kernel
theorem dX1_foreseeBeat_51 : decode cX1_foreseeBeat 51 = .ok (.goto (-43), 3) := by decide +kernel
theorem dX1_foreseeBeat_54 : decode cX1_foreseeBeat 54 = .ok (.return_, 1) := by decide +kernel
set_option maxRecDepth 20000 in
theorem ggX1_foreseenSpread_X1_foreseenOf : GoodIn wsX1_foreseenSpread wsX1_foreseenOf := goodIn_r _ [12, 13, 14, 15, 1, 2, 3, 4, 16, 17, 18, 19, 20, 21, 22, 23, 24, 25, 26, 27, 28, 29, 30, 31, 32, 33, 34, 35, 36, 37, 38, 39, 40, 41, 42, 43, 44, 45, 46, 47, 48, 49, 50, 51, 52, 53, 54] (by decide +kernel) (by decide +kernel)
set_option maxRecDepth 20000 in
theorem gX1_foreseenSpread_X1_foreseenOf : GoodIn wsX1_foreseenSpread (wsV RX1 196 RX1 yX1_foreseenOf wsX1_foreseenOf) := goodIn_app (goodIn_of _ (by decide +kernel)) ggX1_foreseenSpread_X1_foreseenOf
theorem dX1_foreseenSpread_0 : decode cX1_foreseenSpread 0 = .ok (.iconst (-1), 1) := by decide +kernel
theorem dX1_foreseenSpread_1 : decode cX1_foreseenSpread 1 = .ok (.istore_n 1, 1) := by decide +kernel
theorem dX1_foreseenSpread_2 : decode cX1_foreseenSpread 2 = .ok (.iconst (-1), 1) := by decide +kernel
theorem dX1_foreseenSpread_3 : decode cX1_foreseenSpread 3 = .ok (.istore_n 2, 1) := by decide +kernel
theorem dX1_foreseenSpread_4 : decode cX1_foreseenSpread 4 = .ok (.iconst 0, 1) := by decide +kernel
theorem dX1_foreseenSpread_5 : decode cX1_foreseenSpread 5 = .ok (.istore_n 3, 1) := by decide +kernel
theorem dX1_foreseenSpread_6 : decode cX1_foreseenSpread 6 = .ok (.iload_n 3, 1) := by decide +kernel
theorem dX1_foreseenSpread_7 : decode cX1_foreseenSpread 7 = .ok (.bipush 6, 2) := by decide +kernel
theorem dX1_foreseenSpread_9 : decode cX1_foreseenSpread 9 = .ok (.if_icmp .ge 44, 3) := by decide +kernel
theorem dX1_foreseenSpread_12 : decode cX1_foreseenSpread 12 = .ok (.aload_n 0, 1) := by decide +kernel
theorem dX1_foreseenSpread_13 : decode cX1_foreseenSpread 13 = .ok (.iload_n 3, 1) := by decide +kernel
theorem dX1_foreseenSpread_14 : decode cX1_foreseenSpread 14 = .ok (.invokevirtual 196, 3) := by decide +kernel
theorem dX1_foreseenSpread_17 : decode cX1_foreseenSpread 17 = .ok (.istore 4, 2) := by decide +kernel
theorem dX1_foreseenSpread_19 : decode cX1_foreseenSpread 19 = .ok (.iload 4, 2) := by decide +kernel
theorem dX1_foreseenSpread_21 : decode cX1_foreseenSpread 21 = .ok (.ifCond .lt 26, 3) := by decide +kernel
theorem dX1_foreseenSpread_24 : decode cX1_foreseenSpread 24 = .ok (.iload_n 1, 1) := by decide +kernel
theorem dX1_foreseenSpread_25 : decode cX1_foreseenSpread 25 = .ok (.iload 4, 2) := by decide +kernel
theorem dX1_foreseenSpread_27 : decode cX1_foreseenSpread 27 = .ok (.invokestatic 126, 3) := by decide +kernel
theorem dX1_foreseenSpread_30 : decode cX1_foreseenSpread 30 = .ok (.istore_n 1, 1) := by decide +kernel
theorem dX1_foreseenSpread_31 : decode cX1_foreseenSpread 31 = .ok (.iload_n 2, 1) := by decide +kernel
theorem dX1_foreseenSpread_32 : decode cX1_foreseenSpread 32 = .ok (.ifCond .ge 8, 3) := by decide +kernel
theorem dX1_foreseenSpread_35 : decode cX1_foreseenSpread 35 = .ok (.iload 4, 2) := by decide +kernel
theorem dX1_foreseenSpread_37 : decode cX1_foreseenSpread 37 = .ok (.goto 9, 3) := by decide +kernel
theorem dX1_foreseenSpread_40 : decode cX1_foreseenSpread 40 = .ok (.iload_n 2, 1) := by decide +kernel
theorem dX1_foreseenSpread_41 : decode cX1_foreseenSpread 41 = .ok (.iload 4, 2) := by decide +kernel
theorem dX1_foreseenSpread_43 : decode cX1_foreseenSpread 43 = .ok (.invokestatic 199, 3) := by decide +kernel
theorem dX1_foreseenSpread_46 : decode cX1_foreseenSpread 46 = .ok (.istore_n 2, 1) := by decide +kernel
theorem dX1_foreseenSpread_47 : decode cX1_foreseenSpread 47 = .ok (.iinc 3 1, 3) := by decide +kernel
theorem dX1_foreseenSpread_50 : decode cX1_foreseenSpread 50 = .ok (.goto (-44), 3) := by decide +kernel
theorem dX1_foreseenSpread_53 : decode cX1_foreseenSpread 53 = .ok (.iload_n 1, 1) := by decide +kernel
theorem dX1_foreseenSpread_54 : decode cX1_foreseenSpread 54 = .ok (.iload_n 2, 1) := by decide +kernel
theorem dX1_foreseenSpread_55 : decode cX1_foreseenSpread 55 = .ok (.isub, 1) := by decide +kernel
theorem dX1_foreseenSpread_56 : decode cX1_foreseenSpread 56 = .ok (.ireturn, 1) := by decide +kernel
set_option maxRecDepth 20000 in
theorem ggX1_foreseenOf_Jx4a65c_size_8abf5 : GoodIn wsX1_foreseenOf wsJx4a65c_size_8abf5 := goodIn_r _ [13, 14, 44, 45, 46] (by decide +kernel) (by decide +kernel)
set_option maxRecDepth 20000 in
theorem gX1_foreseenOf_Jx4a65c_size_8abf5 : GoodIn wsX1_foreseenOf (wsV RX1 27 RJx4a65c yJx4a65c_size_8abf5 wsJx4a65c_size_8abf5) := goodIn_app (goodIn_of _ (by decide +kernel)) ggX1_foreseenOf_Jx4a65c_size_8abf5
set_option maxRecDepth 20000 in
theorem ggX1_foreseenOf_Jx4a65c_get_915e3 : GoodIn wsX1_foreseenOf wsJx4a65c_get_915e3 := goodIn_r _ [18, 14, 19, 20, 21, 22, 23, 24, 25, 26, 27, 28, 29, 12, 30, 31, 44, 45, 46] (by decide +kernel) (by decide +kernel)
set_option maxRecDepth 20000 in
theorem gX1_foreseenOf_Jx4a65c_get_915e3 : GoodIn wsX1_foreseenOf (wsV RX1 93 RJx4a65c yJx4a65c_get_915e3 wsJx4a65c_get_915e3) := goodIn_app (goodIn_of _ (by decide +kernel)) ggX1_foreseenOf_Jx4a65c_get_915e3
theorem dX1_foreseenOf_0 : decode cX1_foreseenOf 0 = .ok (.iconst (-1), 1) := by decide +kernel
theorem dX1_foreseenOf_1 : decode cX1_foreseenOf 1 = .ok (.istore_n 2, 1) := by decide +kernel
theorem dX1_foreseenOf_2 : decode cX1_foreseenOf 2 = .ok (.iconst 0, 1) := by decide +kernel
theorem dX1_foreseenOf_3 : decode cX1_foreseenOf 3 = .ok (.istore_n 3, 1) := by decide +kernel
theorem dX1_foreseenOf_4 : decode cX1_foreseenOf 4 = .ok (.iload_n 3, 1) := by decide +kernel
theorem dX1_foreseenOf_5 : decode cX1_foreseenOf 5 = .ok (.aload_n 0, 1) := by decide +kernel
theorem dX1_foreseenOf_6 : decode cX1_foreseenOf 6 = .ok (.getfield 10, 3) := by decide +kernel
theorem dX1_foreseenOf_9 : decode cX1_foreseenOf 9 = .ok (.invokevirtual 27, 3) := by decide +kernel
theorem dX1_foreseenOf_12 : decode cX1_foreseenOf 12 = .ok (.if_icmp .ge 43, 3) := by decide +kernel
theorem dX1_foreseenOf_15 : decode cX1_foreseenOf 15 = .ok (.aload_n 0, 1) := by decide +kernel
theorem dX1_foreseenOf_16 : decode cX1_foreseenOf 16 = .ok (.getfield 10, 3) := by decide +kernel
theorem dX1_foreseenOf_19 : decode cX1_foreseenOf 19 = .ok (.iload_n 3, 1) := by decide +kernel
theorem dX1_foreseenOf_20 : decode cX1_foreseenOf 20 = .ok (.invokevirtual 93, 3) := by decide +kernel
theorem dX1_foreseenOf_23 : decode cX1_foreseenOf 23 = .ok (.checkcast 38, 3) := by decide +kernel
theorem dX1_foreseenOf_26 : decode cX1_foreseenOf 26 = .ok (.astore 4, 2) := by decide +kernel
theorem dX1_foreseenOf_28 : decode cX1_foreseenOf 28 = .ok (.aload 4, 2) := by decide +kernel
theorem dX1_foreseenOf_30 : decode cX1_foreseenOf 30 = .ok (.getfield 65, 3) := by decide +kernel
theorem dX1_foreseenOf_33 : decode cX1_foreseenOf 33 = .ok (.iload_n 1, 1) := by decide +kernel
theorem dX1_foreseenOf_34 : decode cX1_foreseenOf 34 = .ok (.if_icmp .ne 15, 3) := by decide +kernel
theorem dX1_foreseenOf_37 : decode cX1_foreseenOf 37 = .ok (.iload_n 2, 1) := by decide +kernel
theorem dX1_foreseenOf_38 : decode cX1_foreseenOf 38 = .ok (.iconst 0, 1) := by decide +kernel
theorem dX1_foreseenOf_39 : decode cX1_foreseenOf 39 = .ok (.invokestatic 126, 3) := by decide +kernel
theorem dX1_foreseenOf_42 : decode cX1_foreseenOf 42 = .ok (.aload 4, 2) := by decide +kernel
theorem dX1_foreseenOf_44 : decode cX1_foreseenOf 44 = .ok (.getfield 186, 3) := by decide +kernel
theorem dX1_foreseenOf_47 : decode cX1_foreseenOf 47 = .ok (.iadd, 1) := by decide +kernel
theorem dX1_foreseenOf_48 : decode cX1_foreseenOf 48 = .ok (.istore_n 2, 1) := by decide +kernel
theorem dX1_foreseenOf_49 : decode cX1_foreseenOf 49 = .ok (.iinc 3 1, 3) := by decide +kernel
theorem dX1_foreseenOf_52 : decode cX1_foreseenOf 52 = .ok (.goto (-48), 3) := by decide +kernel
theorem dX1_foreseenOf_55 : decode cX1_foreseenOf 55 = .ok (.iload_n 2, 1) := by decide +kernel
theorem dX1_foreseenOf_56 : decode cX1_foreseenOf 56 = .ok (.ireturn, 1) := by decide +kernel
set_option maxRecDepth 20000 in
theorem ggX1_countMet_Jx4a65c_size_8abf5 : GoodIn wsX1_countMet wsJx4a65c_size_8abf5 := goodIn_r _ [7, 8, 41, 42, 43] (by decide +kernel) (by decide +kernel)
set_option maxRecDepth 20000 in
theorem gX1_countMet_Jx4a65c_size_8abf5 : GoodIn wsX1_countMet (wsV RX1 27 RJx4a65c yJx4a65c_size_8abf5 wsJx4a65c_size_8abf5) := goodIn_app (goodIn_of _ (by decide +kernel)) ggX1_countMet_Jx4a65c_size_8abf5
set_option maxRecDepth 20000 in
theorem ggX1_countMet_Jx4a65c_get_915e3 : GoodIn wsX1_countMet wsJx4a65c_get_915e3 := goodIn_r _ [12, 8, 13, 14, 15, 16, 17, 18, 19, 20, 21, 22, 23, 6, 24, 25, 41, 42, 43] (by decide +kernel) (by decide +kernel)
set_option maxRecDepth 20000 in
theorem gX1_countMet_Jx4a65c_get_915e3 : GoodIn wsX1_countMet (wsV RX1 93 RJx4a65c yJx4a65c_get_915e3 wsJx4a65c_get_915e3) := goodIn_app (goodIn_of _ (by decide +kernel)) ggX1_countMet_Jx4a65c_get_915e3
set_option maxRecDepth 20000 in
theorem ggX1_countMet_X1_wouldMeet : GoodIn wsX1_countMet wsX1_wouldMeet := goodIn_r _ [29, 30, 31, 32, 33, 28, 34, 35, 36, 37, 44, 45, 46, 47, 48, 49, 50, 51, 52] (by decide +kernel) (by decide +kernel)
set_option maxRecDepth 20000 in
theorem gX1_countMet_X1_wouldMeet : GoodIn wsX1_countMet (va_wsS RX1 108 yX1_wouldMeet wsX1_wouldMeet) := goodIn_app (goodIn_of _ (by decide +kernel)) ggX1_countMet_X1_wouldMeet
theorem dX1_countMet_0 : decode cX1_countMet 0 = .ok (.iconst 0, 1) := by decide +kernel
theorem dX1_countMet_1 : decode cX1_countMet 1 = .ok (.istore_n 3, 1) := by decide +kernel
theorem dX1_countMet_2 : decode cX1_countMet 2 = .ok (.iconst 0, 1) := by decide +kernel
theorem dX1_countMet_3 : decode cX1_countMet 3 = .ok (.istore 4, 2) := by decide +kernel
theorem dX1_countMet_5 : decode cX1_countMet 5 = .ok (.iload 4, 2) := by decide +kernel
theorem dX1_countMet_7 : decode cX1_countMet 7 = .ok (.aload_n 0, 1) := by decide +kernel
theorem dX1_countMet_8 : decode cX1_countMet 8 = .ok (.getfield 10, 3) := by decide +kernel
theorem dX1_countMet_11 : decode cX1_countMet 11 = .ok (.invokevirtual 27, 3) := by decide +kernel
theorem dX1_countMet_14 : decode cX1_countMet 14 = .ok (.if_icmp .ge 42, 3) := by decide +kernel
theorem dX1_countMet_17 : decode cX1_countMet 17 = .ok (.aload_n 0, 1) := by decide +kernel
theorem dX1_countMet_18 : decode cX1_countMet 18 = .ok (.getfield 10, 3) := by decide +kernel
theorem dX1_countMet_21 : decode cX1_countMet 21 = .ok (.iload 4, 2) := by decide +kernel
theorem dX1_countMet_23 : decode cX1_countMet 23 = .ok (.invokevirtual 93, 3) := by decide +kernel
theorem dX1_countMet_26 : decode cX1_countMet 26 = .ok (.checkcast 38, 3) := by decide +kernel
theorem dX1_countMet_29 : decode cX1_countMet 29 = .ok (.astore 5, 2) := by decide +kernel
theorem dX1_countMet_31 : decode cX1_countMet 31 = .ok (.aload 5, 2) := by decide +kernel
theorem dX1_countMet_33 : decode cX1_countMet 33 = .ok (.aload_n 1, 1) := by decide +kernel
theorem dX1_countMet_34 : decode cX1_countMet 34 = .ok (.if_acmp .eq 16, 3) := by decide +kernel
theorem dX1_countMet_37 : decode cX1_countMet 37 = .ok (.aload_n 1, 1) := by decide +kernel
theorem dX1_countMet_38 : decode cX1_countMet 38 = .ok (.iload_n 2, 1) := by decide +kernel
theorem dX1_countMet_39 : decode cX1_countMet 39 = .ok (.aload 5, 2) := by decide +kernel
theorem dX1_countMet_41 : decode cX1_countMet 41 = .ok (.invokestatic 108, 3) := by decide +kernel
theorem dX1_countMet_44 : decode cX1_countMet 44 = .ok (.ifCond .eq 6, 3) := by decide +kernel
theorem dX1_countMet_47 : decode cX1_countMet 47 = .ok (.iinc 3 1, 3) := by decide +kernel
theorem dX1_countMet_50 : decode cX1_countMet 50 = .ok (.iinc 4 1, 3) := by decide +kernel
theorem dX1_countMet_53 : decode cX1_countMet 53 = .ok (.goto (-48), 3) := by decide +kernel
theorem dX1_countMet_56 : decode cX1_countMet 56 = .ok (.iload_n 3, 1) := by decide +kernel
theorem dX1_countMet_57 : decode cX1_countMet 57 = .ok (.ireturn, 1) := by decide +kernel
set_option maxRecDepth 20000 in
theorem ggX1_wouldMeet_X1_greatestDivisor : GoodIn wsX1_wouldMeet wsX1_greatestDivisor := goodIn_r _ [6, 7, 8, 5, 9] (by decide +kernel) (by decide +kernel)
set_option maxRecDepth 20000 in
theorem gX1_wouldMeet_X1_greatestDivisor : GoodIn wsX1_wouldMeet (va_wsS RX1 104 yX1_greatestDivisor wsX1_greatestDivisor) := goodIn_app (goodIn_of _ (by decide +kernel)) ggX1_wouldMeet_X1_greatestDivisor
set_option maxRecDepth 20000 in
theorem ggX1_wouldMeet_X1_divides : GoodIn wsX1_wouldMeet wsX1_divides := goodIn_r _ [9] (by decide +kernel) (by decide +kernel)
set_option maxRecDepth 20000 in
theorem gX1_wouldMeet_X1_divides : GoodIn wsX1_wouldMeet (va_wsS RX1 202 yX1_divides wsX1_divides) := goodIn_app (goodIn_of _ (by decide +kernel)) ggX1_wouldMeet_X1_divides
theorem dX1_wouldMeet_0 : decode cX1_wouldMeet 0 = .ok (.aload_n 0, 1) := by decide +kernel
theorem dX1_wouldMeet_1 : decode cX1_wouldMeet 1 = .ok (.getfield 51, 3) := by decide +kernel
theorem dX1_wouldMeet_4 : decode cX1_wouldMeet 4 = .ok (.aload_n 2, 1) := by decide +kernel
theorem dX1_wouldMeet_5 : decode cX1_wouldMeet 5 = .ok (.getfield 51, 3) := by decide +kernel
theorem dX1_wouldMeet_8 : decode cX1_wouldMeet 8 = .ok (.invokestatic 104, 3) := by decide +kernel
theorem dX1_wouldMeet_11 : decode cX1_wouldMeet 11 = .ok (.iload_n 1, 1) := by decide +kernel
theorem dX1_wouldMeet_12 : decode cX1_wouldMeet 12 = .ok (.aload_n 2, 1) := by decide +kernel
theorem dX1_wouldMeet_13 : decode cX1_wouldMeet 13 = .ok (.getfield 54, 3) := by decide +kernel
theorem dX1_wouldMeet_16 : decode cX1_wouldMeet 16 = .ok (.isub, 1) := by decide +kernel
theorem dX1_wouldMeet_17 : decode cX1_wouldMeet 17 = .ok (.i2l, 1) := by decide +kernel
theorem dX1_wouldMeet_18 : decode cX1_wouldMeet 18 = .ok (.invokestatic 202, 3) := by decide +kernel
theorem dX1_wouldMeet_21 : decode cX1_wouldMeet 21 = .ok (.ireturn, 1) := by decide +kernel
theorem dX1_divides_0 : decode cX1_divides 0 = .ok (.iload_n 0, 1) := by decide +kernel
theorem dX1_divides_1 : decode cX1_divides 1 = .ok (.ifCond .le 16, 3) := by decide +kernel
theorem dX1_divides_4 : decode cX1_divides 4 = .ok (.lload_n 1, 1) := by decide +kernel
theorem dX1_divides_5 : decode cX1_divides 5 = .ok (.iload_n 0, 1) := by decide +kernel
theorem dX1_divides_6 : decode cX1_divides 6 = .ok (.i2l, 1) := by decide +kernel
theorem dX1_divides_7 : decode cX1_divides 7 = .ok (.lrem, 1) := by decide +kernel
theorem dX1_divides_8 : decode cX1_divides 8 = .ok (.lconst 0, 1) := by decide +kernel
theorem dX1_divides_9 : decode cX1_divides 9 = .ok (.lcmp, 1) := by decide +kernel
theorem dX1_divides_10 : decode cX1_divides 10 = .ok (.ifCond .ne 7, 3) := by decide +kernel
theorem dX1_divides_13 : decode cX1_divides 13 = .ok (.iconst 1, 1) := by decide +kernel
theorem dX1_divides_14 : decode cX1_divides 14 = .ok (.goto 4, 3) := by decide +kernel
theorem dX1_divides_17 : decode cX1_divides 17 = .ok (.iconst 0, 1) := by decide +kernel
theorem dX1_divides_18 : decode cX1_divides 18 = .ok (.ireturn, 1) := by decide +kernel
set_option maxRecDepth 20000 in
theorem ggX1_greatestDivisor_X1_divides : GoodIn wsX1_greatestDivisor wsX1_divides := goodIn_r _ [4] (by decide +kernel) (by decide +kernel)
set_option maxRecDepth 20000 in
theorem gX1_greatestDivisor_X1_divides : GoodIn wsX1_greatestDivisor (va_wsS RX1 202 yX1_divides wsX1_divides) := goodIn_app (goodIn_of _ (by decide +kernel)) ggX1_greatestDivisor_X1_divides
theorem dX1_greatestDivisor_0 : decode cX1_greatestDivisor 0 = .ok (.iload_n 0, 1) := by decide +kernel
theorem dX1_greatestDivisor_1 : decode cX1_greatestDivisor 1 = .ok (.istore_n 2, 1) := by decide +kernel
theorem dX1_greatestDivisor_2 : decode cX1_greatestDivisor 2 = .ok (.iload_n 2, 1) := by decide +kernel
theorem dX1_greatestDivisor_3 : decode cX1_greatestDivisor 3 = .ok (.iconst 1, 1) := by decide +kernel
theorem dX1_greatestDivisor_4 : decode cX1_greatestDivisor 4 = .ok (.if_icmp .le 29, 3) := by decide +kernel
theorem dX1_greatestDivisor_7 : decode cX1_greatestDivisor 7 = .ok (.iload_n 2, 1) := by decide +kernel
theorem dX1_greatestDivisor_8 : decode cX1_greatestDivisor 8 = .ok (.iload_n 0, 1) := by decide +kernel
theorem dX1_greatestDivisor_9 : decode cX1_greatestDivisor 9 = .ok (.i2l, 1) := by decide +kernel
theorem dX1_greatestDivisor_10 : decode cX1_greatestDivisor 10 = .ok (.invokestatic 202, 3) := by decide +kernel
theorem dX1_greatestDivisor_13 : decode cX1_greatestDivisor 13 = .ok (.ifCond .eq 14, 3) := by decide +kernel
theorem dX1_greatestDivisor_16 : decode cX1_greatestDivisor 16 = .ok (.iload_n 2, 1) := by decide +kernel
theorem dX1_greatestDivisor_17 : decode cX1_greatestDivisor 17 = .ok (.iload_n 1, 1) := by decide +kernel
theorem dX1_greatestDivisor_18 : decode cX1_greatestDivisor 18 = .ok (.i2l, 1) := by decide +kernel
theorem dX1_greatestDivisor_19 : decode cX1_greatestDivisor 19 = .ok (.invokestatic 202, 3) := by decide +kernel
theorem dX1_greatestDivisor_22 : decode cX1_greatestDivisor 22 = .ok (.ifCond .eq 5, 3) := by decide +kernel
theorem dX1_greatestDivisor_25 : decode cX1_greatestDivisor 25 = .ok (.iload_n 2, 1) := by decide +kernel
theorem dX1_greatestDivisor_26 : decode cX1_greatestDivisor 26 = .ok (.ireturn, 1) := by decide +kernel
theorem dX1_greatestDivisor_27 : decode cX1_greatestDivisor 27 = .ok (.iinc 2 (-1), 3) := by decide +kernel
theorem dX1_greatestDivisor_30 : decode cX1_greatestDivisor 30 = .ok (.goto (-28), 3) := by decide +kernel
theorem dX1_greatestDivisor_33 : decode cX1_greatestDivisor 33 = .ok (.iconst 1, 1) := by decide +kernel
theorem dX1_greatestDivisor_34 : decode cX1_greatestDivisor 34 = .ok (.ireturn, 1) := by decide +kernel
set_option maxRecDepth 20000 in
theorem ggX1_smallestMultiple_X1_divides : GoodIn wsX1_smallestMultiple wsX1_divides := goodIn_r _ [4] (by decide +kernel) (by decide +kernel)
set_option maxRecDepth 20000 in
theorem gX1_smallestMultiple_X1_divides : GoodIn wsX1_smallestMultiple (va_wsS RX1 202 yX1_divides wsX1_divides) := goodIn_app (goodIn_of _ (by decide +kernel)) ggX1_smallestMultiple_X1_divides
theorem dX1_smallestMultiple_0 : decode cX1_smallestMultiple 0 = .ok (.iconst 1, 1) := by decide +kernel
theorem dX1_smallestMultiple_1 : decode cX1_smallestMultiple 1 = .ok (.istore_n 3, 1) := by decide +kernel
theorem dX1_smallestMultiple_2 : decode cX1_smallestMultiple 2 = .ok (.iload_n 3, 1) := by decide +kernel
theorem dX1_smallestMultiple_3 : decode cX1_smallestMultiple 3 = .ok (.iload_n 2, 1) := by decide +kernel
theorem dX1_smallestMultiple_4 : decode cX1_smallestMultiple 4 = .ok (.if_icmp .ge 25, 3) := by decide +kernel
theorem dX1_smallestMultiple_7 : decode cX1_smallestMultiple 7 = .ok (.iload_n 2, 1) := by decide +kernel
theorem dX1_smallestMultiple_8 : decode cX1_smallestMultiple 8 = .ok (.lload_n 0, 1) := by decide +kernel
theorem dX1_smallestMultiple_9 : decode cX1_smallestMultiple 9 = .ok (.iload_n 3, 1) := by decide +kernel
theorem dX1_smallestMultiple_10 : decode cX1_smallestMultiple 10 = .ok (.i2l, 1) := by decide +kernel
theorem dX1_smallestMultiple_11 : decode cX1_smallestMultiple 11 = .ok (.lmul, 1) := by decide +kernel
theorem dX1_smallestMultiple_12 : decode cX1_smallestMultiple 12 = .ok (.invokestatic 202, 3) := by decide +kernel
theorem dX1_smallestMultiple_15 : decode cX1_smallestMultiple 15 = .ok (.ifCond .eq 8, 3) := by decide +kernel
theorem dX1_smallestMultiple_18 : decode cX1_smallestMultiple 18 = .ok (.lload_n 0, 1) := by decide +kernel
theorem dX1_smallestMultiple_19 : decode cX1_smallestMultiple 19 = .ok (.iload_n 3, 1) := by decide +kernel
theorem dX1_smallestMultiple_20 : decode cX1_smallestMultiple 20 = .ok (.i2l, 1) := by decide +kernel
theorem dX1_smallestMultiple_21 : decode cX1_smallestMultiple 21 = .ok (.lmul, 1) := by decide +kernel
theorem dX1_smallestMultiple_22 : decode cX1_smallestMultiple 22 = .ok (.lreturn, 1) := by decide +kernel
theorem dX1_smallestMultiple_23 : decode cX1_smallestMultiple 23 = .ok (.iinc 3 1, 3) := by decide +kernel
theorem dX1_smallestMultiple_26 : decode cX1_smallestMultiple 26 = .ok (.goto (-24), 3) := by decide +kernel
theorem dX1_smallestMultiple_29 : decode cX1_smallestMultiple 29 = .ok (.lload_n 0, 1) := by decide +kernel
theorem dX1_smallestMultiple_30 : decode cX1_smallestMultiple 30 = .ok (.iload_n 2, 1) := by decide +kernel
theorem dX1_smallestMultiple_31 : decode cX1_smallestMultiple 31 = .ok (.i2l, 1) := by decide +kernel
theorem dX1_smallestMultiple_32 : decode cX1_smallestMultiple 32 = .ok (.lmul, 1) := by decide +kernel
theorem dX1_smallestMultiple_33 : decode cX1_smallestMultiple 33 = .ok (.lreturn, 1) := by decide +kernel
theorem dX1_joined_0 : decode cX1_joined 0 = .ok (.lload_n 0, 1) := by decide +kernel
theorem dX1_joined_1 : decode cX1_joined 1 = .ok (.ldc2_w 206, 3) := by decide +kernel
theorem dX1_joined_4 : decode cX1_joined 4 = .ok (.lmul, 1) := by decide +kernel
theorem dX1_joined_5 : decode cX1_joined 5 = .ok (.lload_n 2, 1) := by decide +kernel
theorem dX1_joined_6 : decode cX1_joined 6 = .ok (.ladd, 1) := by decide +kernel
theorem dX1_joined_7 : decode cX1_joined 7 = .ok (.lreturn, 1) := by decide +kernel
set_option maxRecDepth 20000 in
theorem ggX1_joinedWithLamp_X1_phaseOf : GoodIn wsX1_joinedWithLamp wsX1_phaseOf := goodIn_ca (goodIn_r _ [6, 7, 8, 9, 10, 5, 11, 12, 13, 1, 14, 15, 16, 17, 18, 19, 20, 21, 22, 23, 24, 25, 26, 27, 28, 29, 30, 31, 32, 33, 34, 35, 36, 37, 38, 39, 40, 41, 42, 43, 44, 120, 121, 122, 123, 124, 125, 126, 127, 128, 129, 130, 131, 132, 133, 134] (by decide +kernel) (by decide +kernel)) (goodIn_sub (fun _ h => List.mem_cons_of_mem _ (List.mem_append_right _ h)) (by decide +kernel))
set_option maxRecDepth 20000 in
theorem gX1_joinedWithLamp_X1_phaseOf : GoodIn wsX1_joinedWithLamp (wsV RX1 208 RX1 yX1_phaseOf wsX1_phaseOf) := goodIn_app (goodIn_of _ (by decide +kernel)) ggX1_joinedWithLamp_X1_phaseOf
set_option maxRecDepth 20000 in
theorem ggX1_joinedWithLamp_X1_joined : GoodIn wsX1_joinedWithLamp wsX1_joined := goodIn_r _ [47, 48] (by decide +kernel) (by decide +kernel)
set_option maxRecDepth 20000 in
theorem gX1_joinedWithLamp_X1_joined : GoodIn wsX1_joinedWithLamp (va_wsS RX1 139 yX1_joined wsX1_joined) := goodIn_app (goodIn_of _ (by decide +kernel)) ggX1_joinedWithLamp_X1_joined
set_option maxRecDepth 20000 in
theorem ggX1_joinedWithLamp_X1_isDue : GoodIn wsX1_joinedWithLamp wsX1_isDue := goodIn_ca (goodIn_r _ [52, 7, 8, 9, 10, 5, 11, 12, 13, 1, 14, 15, 16, 17, 18, 19, 20, 21, 22, 23, 24, 25, 26, 27, 28, 29, 30, 31, 32, 33, 34, 35, 36, 37, 53, 54, 55, 41, 56, 57, 58, 39, 40, 42, 43, 44, 120, 121, 122, 123, 124, 125, 126, 127, 128, 129, 130, 131, 132, 133, 134] (by decide +kernel) (by decide +kernel)) (goodIn_sub (fun _ h => List.mem_cons_of_mem _ (List.mem_append_right _ h)) (by decide +kernel))
set_option maxRecDepth 20000 in
theorem gX1_joinedWithLamp_X1_isDue : GoodIn wsX1_joinedWithLamp (wsV RX1 211 RX1 yX1_isDue wsX1_isDue) := goodIn_app (goodIn_of _ (by decide +kernel)) ggX1_joinedWithLamp_X1_isDue
set_option maxRecDepth 20000 in
theorem ggX1_joinedWithLamp_X1_shines : GoodIn wsX1_joinedWithLamp wsX1_shines := goodIn_ca (goodIn_r _ [62, 7, 63, 8, 9, 10, 5, 11, 12, 13, 1, 14, 15, 16, 17, 18, 19, 20, 21, 22, 23, 24, 25, 26, 27, 28, 29, 30, 31, 32, 33, 34, 35, 36, 37, 64, 65, 66, 67, 68, 69, 53, 54, 55, 41, 56, 57, 58, 39, 40, 42, 43, 44, 120, 121, 122, 126, 127, 128, 129, 130, 131, 132, 133, 134, 123, 124, 125] (by decide +kernel) (by decide +kernel)) (goodIn_sub (fun _ h => List.mem_cons_of_mem _ (List.mem_append_right _ h)) (by decide +kernel))
set_option maxRecDepth 20000 in
theorem gX1_joinedWithLamp_X1_shines : GoodIn wsX1_joinedWithLamp (wsV RX1 214 RX1 yX1_shines wsX1_shines) := goodIn_app (goodIn_of _ (by decide +kernel)) ggX1_joinedWithLamp_X1_shines
set_option maxRecDepth 20000 in
theorem ggX1_joinedWithLamp_X1_colourOf : GoodIn wsX1_joinedWithLamp wsX1_colourOf := goodIn_ca (goodIn_r _ [73, 74, 8, 9, 10, 5, 11, 12, 13, 1, 14, 15, 16, 17, 18, 19, 20, 21, 22, 23, 24, 25, 26, 27, 28, 29, 30, 31, 32, 33, 34, 35, 36, 37, 126, 127, 128, 129, 130, 131, 132, 133, 134, 120, 121, 122, 123, 124, 125] (by decide +kernel) (by decide +kernel)) (goodIn_sub (fun _ h => List.mem_cons_of_mem _ (List.mem_append_right _ h)) (by decide +kernel))
set_option maxRecDepth 20000 in
theorem gX1_joinedWithLamp_X1_colourOf : GoodIn wsX1_joinedWithLamp (wsV RX1 217 RX1 yX1_colourOf wsX1_colourOf) := goodIn_app (goodIn_of _ (by decide +kernel)) ggX1_joinedWithLamp_X1_colourOf
set_option maxRecDepth 20000 in
theorem ggX1_joinedWithLamp_X1_shone : GoodIn wsX1_joinedWithLamp wsX1_shone := goodIn_ca (goodIn_r _ [78, 79, 8, 9, 10, 5, 11, 12, 13, 1, 14, 15, 16, 17, 18, 19, 20, 21, 22, 23, 24, 25, 26, 27, 28, 29, 30, 31, 32, 33, 34, 35, 36, 37, 126, 127, 128, 129, 130, 131, 132, 133, 134, 120, 121, 122, 123, 124, 125] (by decide +kernel) (by decide +kernel)) (goodIn_sub (fun _ h => List.mem_cons_of_mem _ (List.mem_append_right _ h)) (by decide +kernel))
set_option maxRecDepth 20000 in
theorem gX1_joinedWithLamp_X1_shone : GoodIn wsX1_joinedWithLamp (wsV RX1 220 RX1 yX1_shone wsX1_shone) := goodIn_app (goodIn_of _ (by decide +kernel)) ggX1_joinedWithLamp_X1_shone
set_option maxRecDepth 20000 in
theorem ggX1_joinedWithLamp_X1_stayedDark : GoodIn wsX1_joinedWithLamp wsX1_stayedDark := goodIn_ca (goodIn_r _ [83, 84, 8, 9, 10, 5, 11, 12, 13, 1, 14, 15, 16, 17, 18, 19, 20, 21, 22, 23, 24, 25, 26, 27, 28, 29, 30, 31, 32, 33, 34, 35, 36, 37, 126, 127, 128, 129, 130, 131, 132, 133, 134, 120, 121, 122, 123, 124, 125] (by decide +kernel) (by decide +kernel)) (goodIn_sub (fun _ h => List.mem_cons_of_mem _ (List.mem_append_right _ h)) (by decide +kernel))
set_option maxRecDepth 20000 in
theorem gX1_joinedWithLamp_X1_stayedDark : GoodIn wsX1_joinedWithLamp (wsV RX1 223 RX1 yX1_stayedDark wsX1_stayedDark) := goodIn_app (goodIn_of _ (by decide +kernel)) ggX1_joinedWithLamp_X1_stayedDark
set_option maxRecDepth 20000 in
theorem ggX1_joinedWithLamp_X1_meets : GoodIn wsX1_joinedWithLamp wsX1_meets := goodIn_ca (goodIn_r _ [88, 89, 8, 9, 10, 5, 11, 12, 13, 1, 14, 15, 16, 17, 18, 19, 20, 21, 22, 23, 24, 25, 26, 27, 28, 29, 30, 31, 32, 33, 34, 35, 36, 37, 90, 91, 92, 93, 94, 95, 96, 97, 98, 99, 100, 101, 102, 103, 126, 127, 128, 129, 130, 131, 132, 133, 134, 120, 121, 122, 123, 124, 125] (by decide +kernel) (by decide +kernel)) (goodIn_sub (fun _ h => List.mem_cons_of_mem _ (List.mem_append_right _ h)) (by decide +kernel))
set_option maxRecDepth 20000 in
theorem gX1_joinedWithLamp_X1_meets : GoodIn wsX1_joinedWithLamp (wsV RX1 226 RX1 yX1_meets wsX1_meets) := goodIn_app (goodIn_of _ (by decide +kernel)) ggX1_joinedWithLamp_X1_meets
set_option maxRecDepth 20000 in
theorem ggX1_joinedWithLamp_X1_bestShift : GoodIn wsX1_joinedWithLamp wsX1_bestShift := goodIn_ca (goodIn_r _ [107, 97, 8, 9, 10, 5, 11, 12, 13, 1, 14, 15, 16, 17, 18, 19, 20, 21, 22, 23, 24, 25, 26, 27, 28, 29, 30, 31, 32, 33, 34, 35, 36, 37, 90, 91, 92, 93, 94, 95, 96, 89, 98, 99, 100, 101, 102, 103, 126, 127, 128, 129, 130, 131, 132, 133, 134, 120, 121, 122, 123, 124, 125] (by decide +kernel) (by decide +kernel)) (goodIn_sub (fun _ h => List.mem_cons_of_mem _ (List.mem_append_right _ h)) (by decide +kernel))
set_option maxRecDepth 20000 in
theorem gX1_joinedWithLamp_X1_bestShift : GoodIn wsX1_joinedWithLamp (wsV RX1 229 RX1 yX1_bestShift wsX1_bestShift) := goodIn_app (goodIn_of _ (by decide +kernel)) ggX1_joinedWithLamp_X1_bestShift
set_option maxRecDepth 20000 in
theorem ggX1_joinedWithLamp_Jx4a65c_size_8abf5 : GoodIn wsX1_joinedWithLamp wsJx4a65c_size_8abf5 := goodIn_r _ [19, 20, 123, 124, 125] (by decide +kernel) (by decide +kernel)
set_option maxRecDepth 20000 in
theorem gX1_joinedWithLamp_Jx4a65c_size_8abf5 : GoodIn wsX1_joinedWithLamp (wsV RX1 27 RJx4a65c yJx4a65c_size_8abf5 wsJx4a65c_size_8abf5) := goodIn_app (goodIn_of _ (by decide +kernel)) ggX1_joinedWithLamp_Jx4a65c_size_8abf5
set_option maxRecDepth 20000 in
theorem ggX1_joinedWithLamp_X1_beatsUntilMeet : GoodIn wsX1_joinedWithLamp wsX1_beatsUntilMeet := goodIn_ca (goodIn_r _ [111, 7, 97, 8, 9, 10, 5, 11, 12, 13, 1, 14, 15, 16, 17, 18, 19, 20, 21, 22, 23, 24, 25, 26, 27, 28, 29, 30, 31, 32, 33, 34, 35, 36, 37, 112, 113, 114, 41, 115, 43, 58, 39, 40, 42, 44, 116, 117, 118, 119, 120, 121, 122, 126, 127, 128, 129, 130, 131, 132, 133, 134, 123, 124, 125] (by decide +kernel) (by decide +kernel)) (goodIn_sub (fun _ h => List.mem_cons_of_mem _ (List.mem_append_right _ h)) (by decide +kernel))
set_option maxRecDepth 20000 in
theorem gX1_joinedWithLamp_X1_beatsUntilMeet : GoodIn wsX1_joinedWithLamp (wsV RX1 232 RX1 yX1_beatsUntilMeet wsX1_beatsUntilMeet) := goodIn_app (goodIn_of _ (by decide +kernel)) ggX1_joinedWithLamp_X1_beatsUntilMeet
theorem dX1_joinedWithLamp_0 : decode cX1_joinedWithLamp 0 = .ok (.lload_n 1, 1) := by decide +kernel
theorem dX1_joinedWithLamp_1 : decode cX1_joinedWithLamp 1 = .ok (.lstore 4, 2) := by decide +kernel
theorem dX1_joinedWithLamp_3 : decode cX1_joinedWithLamp 3 = .ok (.lload 4, 2) := by decide +kernel
theorem dX1_joinedWithLamp_5 : decode cX1_joinedWithLamp 5 = .ok (.aload_n 0, 1) := by decide +kernel
theorem dX1_joinedWithLamp_6 : decode cX1_joinedWithLamp 6 = .ok (.iload_n 3, 1) := by decide +kernel
theorem dX1_joinedWithLamp_7 : decode cX1_joinedWithLamp 7 = .ok (.invokevirtual 208, 3) := by decide +kernel
theorem dX1_joinedWithLamp_10 : decode cX1_joinedWithLamp 10 = .ok (.i2l, 1) := by decide +kernel
theorem dX1_joinedWithLamp_11 : decode cX1_joinedWithLamp 11 = .ok (.invokestatic 139, 3) := by decide +kernel
theorem dX1_joinedWithLamp_14 : decode cX1_joinedWithLamp 14 = .ok (.lstore 4, 2) := by decide +kernel
theorem dX1_joinedWithLamp_16 : decode cX1_joinedWithLamp 16 = .ok (.lload 4, 2) := by decide +kernel
theorem dX1_joinedWithLamp_18 : decode cX1_joinedWithLamp 18 = .ok (.aload_n 0, 1) := by decide +kernel
theorem dX1_joinedWithLamp_19 : decode cX1_joinedWithLamp 19 = .ok (.iload_n 3, 1) := by decide +kernel
theorem dX1_joinedWithLamp_20 : decode cX1_joinedWithLamp 20 = .ok (.invokevirtual 211, 3) := by decide +kernel
theorem dX1_joinedWithLamp_23 : decode cX1_joinedWithLamp 23 = .ok (.ifCond .eq 7, 3) := by decide +kernel
theorem dX1_joinedWithLamp_26 : decode cX1_joinedWithLamp 26 = .ok (.lconst 1, 1) := by decide +kernel
theorem dX1_joinedWithLamp_27 : decode cX1_joinedWithLamp 27 = .ok (.goto 4, 3) := by decide +kernel
theorem dX1_joinedWithLamp_30 : decode cX1_joinedWithLamp 30 = .ok (.lconst 0, 1) := by decide +kernel
theorem dX1_joinedWithLamp_31 : decode cX1_joinedWithLamp 31 = .ok (.invokestatic 139, 3) := by decide +kernel
theorem dX1_joinedWithLamp_34 : decode cX1_joinedWithLamp 34 = .ok (.lstore 4, 2) := by decide +kernel
theorem dX1_joinedWithLamp_36 : decode cX1_joinedWithLamp 36 = .ok (.lload 4, 2) := by decide +kernel
theorem dX1_joinedWithLamp_38 : decode cX1_joinedWithLamp 38 = .ok (.aload_n 0, 1) := by decide +kernel
theorem dX1_joinedWithLamp_39 : decode cX1_joinedWithLamp 39 = .ok (.iload_n 3, 1) := by decide +kernel
theorem dX1_joinedWithLamp_40 : decode cX1_joinedWithLamp 40 = .ok (.invokevirtual 214, 3) := by decide +kernel
theorem dX1_joinedWithLamp_43 : decode cX1_joinedWithLamp 43 = .ok (.ifCond .eq 7, 3) := by decide +kernel
theorem dX1_joinedWithLamp_46 : decode cX1_joinedWithLamp 46 = .ok (.lconst 1, 1) := by decide +kernel
theorem dX1_joinedWithLamp_47 : decode cX1_joinedWithLamp 47 = .ok (.goto 4, 3) := by decide +kernel
theorem dX1_joinedWithLamp_50 : decode cX1_joinedWithLamp 50 = .ok (.lconst 0, 1) := by decide +kernel
theorem dX1_joinedWithLamp_51 : decode cX1_joinedWithLamp 51 = .ok (.invokestatic 139, 3) := by decide +kernel
theorem dX1_joinedWithLamp_54 : decode cX1_joinedWithLamp 54 = .ok (.lstore 4, 2) := by decide +kernel
theorem dX1_joinedWithLamp_56 : decode cX1_joinedWithLamp 56 = .ok (.lload 4, 2) := by decide +kernel
theorem dX1_joinedWithLamp_58 : decode cX1_joinedWithLamp 58 = .ok (.aload_n 0, 1) := by decide +kernel
theorem dX1_joinedWithLamp_59 : decode cX1_joinedWithLamp 59 = .ok (.iload_n 3, 1) := by decide +kernel
theorem dX1_joinedWithLamp_60 : decode cX1_joinedWithLamp 60 = .ok (.invokevirtual 217, 3) := by decide +kernel
theorem dX1_joinedWithLamp_63 : decode cX1_joinedWithLamp 63 = .ok (.i2l, 1) := by decide +kernel
theorem dX1_joinedWithLamp_64 : decode cX1_joinedWithLamp 64 = .ok (.invokestatic 139, 3) := by decide +kernel
theorem dX1_joinedWithLamp_67 : decode cX1_joinedWithLamp 67 = .ok (.lstore 4, 2) := by decide +kernel
theorem dX1_joinedWithLamp_69 : decode cX1_joinedWithLamp 69 = .ok (.lload 4, 2) := by decide +kernel
theorem dX1_joinedWithLamp_71 : decode cX1_joinedWithLamp 71 = .ok (.aload_n 0, 1) := by decide +kernel
theorem dX1_joinedWithLamp_72 : decode cX1_joinedWithLamp 72 = .ok (.iload_n 3, 1) := by decide +kernel
theorem dX1_joinedWithLamp_73 : decode cX1_joinedWithLamp 73 = .ok (.invokevirtual 220, 3) := by decide +kernel
theorem dX1_joinedWithLamp_76 : decode cX1_joinedWithLamp 76 = .ok (.i2l, 1) := by decide +kernel
theorem dX1_joinedWithLamp_77 : decode cX1_joinedWithLamp 77 = .ok (.invokestatic 139, 3) := by decide +kernel
theorem dX1_joinedWithLamp_80 : decode cX1_joinedWithLamp 80 = .ok (.lstore 4, 2) := by decide +kernel
theorem dX1_joinedWithLamp_82 : decode cX1_joinedWithLamp 82 = .ok (.lload 4, 2) := by decide +kernel
theorem dX1_joinedWithLamp_84 : decode cX1_joinedWithLamp 84 = .ok (.aload_n 0, 1) := by decide +kernel
theorem dX1_joinedWithLamp_85 : decode cX1_joinedWithLamp 85 = .ok (.iload_n 3, 1) := by decide +kernel
theorem dX1_joinedWithLamp_86 : decode cX1_joinedWithLamp 86 = .ok (.invokevirtual 223, 3) := by decide +kernel
theorem dX1_joinedWithLamp_89 : decode cX1_joinedWithLamp 89 = .ok (.i2l, 1) := by decide +kernel
theorem dX1_joinedWithLamp_90 : decode cX1_joinedWithLamp 90 = .ok (.invokestatic 139, 3) := by decide +kernel
theorem dX1_joinedWithLamp_93 : decode cX1_joinedWithLamp 93 = .ok (.lstore 4, 2) := by decide +kernel
theorem dX1_joinedWithLamp_95 : decode cX1_joinedWithLamp 95 = .ok (.lload 4, 2) := by decide +kernel
theorem dX1_joinedWithLamp_97 : decode cX1_joinedWithLamp 97 = .ok (.aload_n 0, 1) := by decide +kernel
theorem dX1_joinedWithLamp_98 : decode cX1_joinedWithLamp 98 = .ok (.iload_n 3, 1) := by decide +kernel
theorem dX1_joinedWithLamp_99 : decode cX1_joinedWithLamp 99 = .ok (.invokevirtual 226, 3) := by decide +kernel
theorem dX1_joinedWithLamp_102 : decode cX1_joinedWithLamp 102 = .ok (.i2l, 1) := by decide +kernel
theorem dX1_joinedWithLamp_103 : decode cX1_joinedWithLamp 103 = .ok (.invokestatic 139, 3) := by decide +kernel
theorem dX1_joinedWithLamp_106 : decode cX1_joinedWithLamp 106 = .ok (.lstore 4, 2) := by decide +kernel
theorem dX1_joinedWithLamp_108 : decode cX1_joinedWithLamp 108 = .ok (.lload 4, 2) := by decide +kernel
theorem dX1_joinedWithLamp_110 : decode cX1_joinedWithLamp 110 = .ok (.aload_n 0, 1) := by decide +kernel
theorem dX1_joinedWithLamp_111 : decode cX1_joinedWithLamp 111 = .ok (.iload_n 3, 1) := by decide +kernel
theorem dX1_joinedWithLamp_112 : decode cX1_joinedWithLamp 112 = .ok (.invokevirtual 229, 3) := by decide +kernel
theorem dX1_joinedWithLamp_115 : decode cX1_joinedWithLamp 115 = .ok (.i2l, 1) := by decide +kernel
theorem dX1_joinedWithLamp_116 : decode cX1_joinedWithLamp 116 = .ok (.invokestatic 139, 3) := by decide +kernel
theorem dX1_joinedWithLamp_119 : decode cX1_joinedWithLamp 119 = .ok (.lstore 4, 2) := by decide +kernel
theorem dX1_joinedWithLamp_121 : decode cX1_joinedWithLamp 121 = .ok (.iconst 0, 1) := by decide +kernel
theorem dX1_joinedWithLamp_122 : decode cX1_joinedWithLamp 122 = .ok (.istore 6, 2) := by decide +kernel
theorem dX1_joinedWithLamp_124 : decode cX1_joinedWithLamp 124 = .ok (.iload 6, 2) := by decide +kernel
theorem dX1_joinedWithLamp_126 : decode cX1_joinedWithLamp 126 = .ok (.aload_n 0, 1) := by decide +kernel
theorem dX1_joinedWithLamp_127 : decode cX1_joinedWithLamp 127 = .ok (.getfield 10, 3) := by decide +kernel
theorem dX1_joinedWithLamp_130 : decode cX1_joinedWithLamp 130 = .ok (.invokevirtual 27, 3) := by decide +kernel
theorem dX1_joinedWithLamp_133 : decode cX1_joinedWithLamp 133 = .ok (.if_icmp .ge 24, 3) := by decide +kernel
theorem dX1_joinedWithLamp_136 : decode cX1_joinedWithLamp 136 = .ok (.lload 4, 2) := by decide +kernel
theorem dX1_joinedWithLamp_138 : decode cX1_joinedWithLamp 138 = .ok (.aload_n 0, 1) := by decide +kernel
theorem dX1_joinedWithLamp_139 : decode cX1_joinedWithLamp 139 = .ok (.iload_n 3, 1) := by decide +kernel
theorem dX1_joinedWithLamp_140 : decode cX1_joinedWithLamp 140 = .ok (.iload 6, 2) := by decide +kernel
theorem dX1_joinedWithLamp_142 : decode cX1_joinedWithLamp 142 = .ok (.invokevirtual 232, 3) := by decide +kernel
theorem dX1_joinedWithLamp_145 : decode cX1_joinedWithLamp 145 = .ok (.i2l, 1) := by decide +kernel
theorem dX1_joinedWithLamp_146 : decode cX1_joinedWithLamp 146 = .ok (.invokestatic 139, 3) := by decide +kernel
theorem dX1_joinedWithLamp_149 : decode cX1_joinedWithLamp 149 = .ok (.lstore 4, 2) := by decide +kernel
theorem dX1_joinedWithLamp_151 : decode cX1_joinedWithLamp 151 = .ok (.iinc 6 1, 3) := by decide +kernel
theorem dX1_joinedWithLamp_154 : decode cX1_joinedWithLamp 154 = .ok (.goto (-30), 3) := by decide +kernel
theorem dX1_joinedWithLamp_157 : decode cX1_joinedWithLamp 157 = .ok (.lload 4, 2) := by decide +kernel
theorem dX1_joinedWithLamp_159 : decode cX1_joinedWithLamp 159 = .ok (.lreturn, 1) := by decide +kernel
theorem dX2_init_0 : decode cX2_init 0 = .ok (.aload_n 0, 1) := by decide +kernel
theorem dX2_init_1 : decode cX2_init 1 = .ok (.invokespecial 3, 3) := by decide +kernel
theorem dX2_init_4 : decode cX2_init 4 = .ok (.aload_n 0, 1) := by decide +kernel
theorem dX2_init_5 : decode cX2_init 5 = .ok (.bipush 20, 2) := by decide +kernel
theorem dX2_init_7 : decode cX2_init 7 = .ok (.putfield 9, 3) := by decide +kernel
theorem dX2_init_10 : decode cX2_init 10 = .ok (.aload_n 0, 1) := by decide +kernel
theorem dX2_init_11 : decode cX2_init 11 = .ok (.bipush 8, 2) := by decide +kernel
theorem dX2_init_13 : decode cX2_init 13 = .ok (.newarray .int, 2) := by decide +kernel
theorem dX2_init_15 : decode cX2_init 15 = .ok (.putfield 13, 3) := by decide +kernel
theorem dX2_init_18 : decode cX2_init 18 = .ok (.aload_n 0, 1) := by decide +kernel
theorem dX2_init_19 : decode cX2_init 19 = .ok (.bipush 8, 2) := by decide +kernel
theorem dX2_init_21 : decode cX2_init 21 = .ok (.newarray .int, 2) := by decide +kernel
theorem dX2_init_23 : decode cX2_init 23 = .ok (.putfield 17, 3) := by decide +kernel
theorem dX2_init_26 : decode cX2_init 26 = .ok (.aload_n 0, 1) := by decide +kernel
theorem dX2_init_27 : decode cX2_init 27 = .ok (.bipush 8, 2) := by decide +kernel
theorem dX2_init_29 : decode cX2_init 29 = .ok (.newarray .int, 2) := by decide +kernel
theorem dX2_init_31 : decode cX2_init 31 = .ok (.putfield 20, 3) := by decide +kernel
theorem dX2_init_34 : decode cX2_init 34 = .ok (.aload_n 0, 1) := by decide +kernel
theorem dX2_init_35 : decode cX2_init 35 = .ok (.bipush 8, 2) := by decide +kernel
theorem dX2_init_37 : decode cX2_init 37 = .ok (.newarray .int, 2) := by decide +kernel
theorem dX2_init_39 : decode cX2_init 39 = .ok (.putfield 23, 3) := by decide +kernel
theorem dX2_init_42 : decode cX2_init 42 = .ok (.aload_n 0, 1) := by decide +kernel
theorem dX2_init_43 : decode cX2_init 43 = .ok (.bipush 8, 2) := by decide +kernel
theorem dX2_init_45 : decode cX2_init 45 = .ok (.newarray .int, 2) := by decide +kernel
theorem dX2_init_47 : decode cX2_init 47 = .ok (.putfield 26, 3) := by decide +kernel
theorem dX2_init_50 : decode cX2_init 50 = .ok (.aload_n 0, 1) := by decide +kernel
theorem dX2_init_51 : decode cX2_init 51 = .ok (.bipush 17, 2) := by decide +kernel
theorem dX2_init_53 : decode cX2_init 53 = .ok (.newarray .int, 2) := by decide +kernel
theorem dX2_init_55 : decode cX2_init 55 = .ok (.putfield 29, 3) := by decide +kernel
theorem dX2_init_58 : decode cX2_init 58 = .ok (.aload_n 0, 1) := by decide +kernel
theorem dX2_init_59 : decode cX2_init 59 = .ok (.bipush 17, 2) := by decide +kernel
theorem dX2_init_61 : decode cX2_init 61 = .ok (.newarray .int, 2) := by decide +kernel
theorem dX2_init_63 : decode cX2_init 63 = .ok (.putfield 32, 3) := by decide +kernel
theorem dX2_init_66 : decode cX2_init 66 = .ok (.return_, 1) := by decide +kernel
theorem dX2_thrown_0 : decode cX2_thrown 0 = .ok (.aload_n 0, 1) := by decide +kernel
theorem dX2_thrown_1 : decode cX2_thrown 1 = .ok (.getfield 35, 3) := by decide +kernel
theorem dX2_thrown_4 : decode cX2_thrown 4 = .ok (.ireturn, 1) := by decide +kernel
theorem dX2_no_0 : decode cX2_no 0 = .ok (.aload_n 0, 1) := by decide +kernel
theorem dX2_no_1 : decode cX2_no 1 = .ok (.iload_n 1, 1) := by decide +kernel
theorem dX2_no_2 : decode cX2_no 2 = .ok (.putfield 35, 3) := by decide +kernel
theorem dX2_no_5 : decode cX2_no 5 = .ok (.iconst 0, 1) := by decide +kernel
theorem dX2_no_6 : decode cX2_no 6 = .ok (.ireturn, 1) := by decide +kernel
theorem dX2_isNot_0 : decode cX2_isNot 0 = .ok (.aload_n 0, 1) := by decide +kernel
theorem dX2_isNot_1 : decode cX2_isNot 1 = .ok (.iload_n 1, 1) := by decide +kernel
theorem dX2_isNot_2 : decode cX2_isNot 2 = .ok (.putfield 35, 3) := by decide +kernel
theorem dX2_isNot_5 : decode cX2_isNot 5 = .ok (.iconst 0, 1) := by decide +kernel
theorem dX2_isNot_6 : decode cX2_isNot 6 = .ok (.ireturn, 1) := by decide +kernel
theorem dX2_ok_0 : decode cX2_ok 0 = .ok (.aload_n 0, 1) := by decide +kernel
theorem dX2_ok_1 : decode cX2_ok 1 = .ok (.iconst 0, 1) := by decide +kernel
theorem dX2_ok_2 : decode cX2_ok 2 = .ok (.putfield 35, 3) := by decide +kernel
theorem dX2_ok_5 : decode cX2_ok 5 = .ok (.iload_n 1, 1) := by decide +kernel
theorem dX2_ok_6 : decode cX2_ok 6 = .ok (.ireturn, 1) := by decide +kernel
theorem dX2_isIn_0 : decode cX2_isIn 0 = .ok (.iload_n 0, 1) := by decide +kernel
theorem dX2_isIn_1 : decode cX2_isIn 1 = .ok (.iload_n 1, 1) := by decide +kernel
theorem dX2_isIn_2 : decode cX2_isIn 2 = .ok (.if_icmp .lt 12, 3) := by decide +kernel
theorem dX2_isIn_5 : decode cX2_isIn 5 = .ok (.iload_n 0, 1) := by decide +kernel
theorem dX2_isIn_6 : decode cX2_isIn 6 = .ok (.iload_n 2, 1) := by decide +kernel
theorem dX2_isIn_7 : decode cX2_isIn 7 = .ok (.if_icmp .gt 7, 3) := by decide +kernel
theorem dX2_isIn_10 : decode cX2_isIn 10 = .ok (.iconst 1, 1) := by decide +kernel
theorem dX2_isIn_11 : decode cX2_isIn 11 = .ok (.goto 4, 3) := by decide +kernel
theorem dX2_isIn_14 : decode cX2_isIn 14 = .ok (.iconst 0, 1) := by decide +kernel
theorem dX2_isIn_15 : decode cX2_isIn 15 = .ok (.ireturn, 1) := by decide +kernel
set_option maxRecDepth 20000 in
theorem ggX2_isLamp_X2_isIn : GoodIn wsX2_isLamp wsX2_isIn := goodIn_r _ [5] (by decide +kernel) (by decide +kernel)
set_option maxRecDepth 20000 in
theorem gX2_isLamp_X2_isIn : GoodIn wsX2_isLamp (va_wsS RX2 41 yX2_isIn wsX2_isIn) := goodIn_app (goodIn_of _ (by decide +kernel)) ggX2_isLamp_X2_isIn
theorem dX2_isLamp_0 : decode cX2_isLamp 0 = .ok (.iload_n 1, 1) := by decide +kernel
theorem dX2_isLamp_1 : decode cX2_isLamp 1 = .ok (.iconst 0, 1) := by decide +kernel
theorem dX2_isLamp_2 : decode cX2_isLamp 2 = .ok (.aload_n 0, 1) := by decide +kernel
theorem dX2_isLamp_3 : decode cX2_isLamp 3 = .ok (.getfield 38, 3) := by decide +kernel
theorem dX2_isLamp_6 : decode cX2_isLamp 6 = .ok (.iconst 1, 1) := by decide +kernel
theorem dX2_isLamp_7 : decode cX2_isLamp 7 = .ok (.isub, 1) := by decide +kernel
theorem dX2_isLamp_8 : decode cX2_isLamp 8 = .ok (.invokestatic 41, 3) := by decide +kernel
theorem dX2_isLamp_11 : decode cX2_isLamp 11 = .ok (.ireturn, 1) := by decide +kernel
set_option maxRecDepth 20000 in
theorem ggX2_areLamps_X2_isLamp : GoodIn wsX2_areLamps wsX2_isLamp := goodIn_r _ [5, 6, 7, 8, 4, 9, 10, 11, 12, 13, 14, 15, 16, 17, 18, 19] (by decide +kernel) (by decide +kernel)
set_option maxRecDepth 20000 in
theorem gX2_areLamps_X2_isLamp : GoodIn wsX2_areLamps (wsV RX2 45 RX2 yX2_isLamp wsX2_isLamp) := goodIn_app (goodIn_of _ (by decide +kernel)) ggX2_areLamps_X2_isLamp
theorem dX2_areLamps_0 : decode cX2_areLamps 0 = .ok (.aload_n 0, 1) := by decide +kernel
theorem dX2_areLamps_1 : decode cX2_areLamps 1 = .ok (.iload_n 1, 1) := by decide +kernel
theorem dX2_areLamps_2 : decode cX2_areLamps 2 = .ok (.invokevirtual 45, 3) := by decide +kernel
theorem dX2_areLamps_5 : decode cX2_areLamps 5 = .ok (.ifCond .eq 15, 3) := by decide +kernel
theorem dX2_areLamps_8 : decode cX2_areLamps 8 = .ok (.aload_n 0, 1) := by decide +kernel
theorem dX2_areLamps_9 : decode cX2_areLamps 9 = .ok (.iload_n 2, 1) := by decide +kernel
theorem dX2_areLamps_10 : decode cX2_areLamps 10 = .ok (.invokevirtual 45, 3) := by decide +kernel
theorem dX2_areLamps_13 : decode cX2_areLamps 13 = .ok (.ifCond .eq 7, 3) := by decide +kernel
theorem dX2_areLamps_16 : decode cX2_areLamps 16 = .ok (.iconst 1, 1) := by decide +kernel
theorem dX2_areLamps_17 : decode cX2_areLamps 17 = .ok (.goto 4, 3) := by decide +kernel
theorem dX2_areLamps_20 : decode cX2_areLamps 20 = .ok (.iconst 0, 1) := by decide +kernel
theorem dX2_areLamps_21 : decode cX2_areLamps 21 = .ok (.ireturn, 1) := by decide +kernel
set_option maxRecDepth 20000 in
theorem ggX2_isColour_X2_isIn : GoodIn wsX2_isColour wsX2_isIn := goodIn_r _ [4] (by decide +kernel) (by decide +kernel)
set_option maxRecDepth 20000 in
theorem gX2_isColour_X2_isIn : GoodIn wsX2_isColour (va_wsS RX2 41 yX2_isIn wsX2_isIn) := goodIn_app (goodIn_of _ (by decide +kernel)) ggX2_isColour_X2_isIn
theorem dX2_isColour_0 : decode cX2_isColour 0 = .ok (.iload_n 0, 1) := by decide +kernel
theorem dX2_isColour_1 : decode cX2_isColour 1 = .ok (.iconst 0, 1) := by decide +kernel
theorem dX2_isColour_2 : decode cX2_isColour 2 = .ok (.iconst 5, 1) := by decide +kernel
theorem dX2_isColour_3 : decode cX2_isColour 3 = .ok (.invokestatic 41, 3) := by decide +kernel
theorem dX2_isColour_6 : decode cX2_isColour 6 = .ok (.ireturn, 1) := by decide +kernel
theorem dX2_common_0 : decode cX2_common 0 = .ok (.iload_n 0, 1) := by decide +kernel
theorem dX2_common_1 : decode cX2_common 1 = .ok (.istore_n 2, 1) := by decide +kernel
theorem dX2_common_2 : decode cX2_common 2 = .ok (.iload_n 1, 1) := by decide +kernel
theorem dX2_common_3 : decode cX2_common 3 = .ok (.istore_n 3, 1) := by decide +kernel
theorem dX2_common_4 : decode cX2_common 4 = .ok (.iload_n 3, 1) := by decide +kernel
theorem dX2_common_5 : decode cX2_common 5 = .ok (.ifCond .le 16, 3) := by decide +kernel
theorem dX2_common_8 : decode cX2_common 8 = .ok (.iload_n 2, 1) := by decide +kernel
theorem dX2_common_9 : decode cX2_common 9 = .ok (.iload_n 3, 1) := by decide +kernel
theorem dX2_common_10 : decode cX2_common 10 = .ok (.irem, 1) := by decide +kernel
theorem dX2_common_11 : decode cX2_common 11 = .ok (.istore 4, 2) := by decide +kernel
theorem dX2_common_13 : decode cX2_common 13 = .ok (.iload_n 3, 1) := by decide +kernel
theorem dX2_common_14 : decode cX2_common 14 = .ok (.istore_n 2, 1) := by decide +kernel
theorem dX2_common_15 : decode cX2_common 15 = .ok (.iload 4, 2) := by decide +kernel
theorem dX2_common_17 : decode cX2_common 17 = .ok (.istore_n 3, 1) := by decide +kernel
theorem dX2_common_18 : decode cX2_common 18 = .ok (.goto (-14), 3) := by decide +kernel
theorem dX2_common_21 : decode cX2_common 21 = .ok (.iload_n 2, 1) := by decide +kernel
theorem dX2_common_22 : decode cX2_common 22 = .ok (.ireturn, 1) := by decide +kernel
theorem dX2_phaseIn_0 : decode cX2_phaseIn 0 = .ok (.aload_n 0, 1) := by decide +kernel
theorem dX2_phaseIn_1 : decode cX2_phaseIn 1 = .ok (.getfield 29, 3) := by decide +kernel
theorem dX2_phaseIn_4 : decode cX2_phaseIn 4 = .ok (.iconst 0, 1) := by decide +kernel
theorem dX2_phaseIn_5 : decode cX2_phaseIn 5 = .ok (.iaload, 1) := by decide +kernel
theorem dX2_phaseIn_6 : decode cX2_phaseIn 6 = .ok (.iload_n 2, 1) := by decide +kernel
theorem dX2_phaseIn_7 : decode cX2_phaseIn 7 = .ok (.iadd, 1) := by decide +kernel
theorem dX2_phaseIn_8 : decode cX2_phaseIn 8 = .ok (.aload_n 0, 1) := by decide +kernel
theorem dX2_phaseIn_9 : decode cX2_phaseIn 9 = .ok (.getfield 20, 3) := by decide +kernel
theorem dX2_phaseIn_12 : decode cX2_phaseIn 12 = .ok (.iload_n 1, 1) := by decide +kernel
theorem dX2_phaseIn_13 : decode cX2_phaseIn 13 = .ok (.iaload, 1) := by decide +kernel
theorem dX2_phaseIn_14 : decode cX2_phaseIn 14 = .ok (.iadd, 1) := by decide +kernel
theorem dX2_phaseIn_15 : decode cX2_phaseIn 15 = .ok (.aload_n 0, 1) := by decide +kernel
theorem dX2_phaseIn_16 : decode cX2_phaseIn 16 = .ok (.getfield 17, 3) := by decide +kernel
theorem dX2_phaseIn_19 : decode cX2_phaseIn 19 = .ok (.iload_n 1, 1) := by decide +kernel
theorem dX2_phaseIn_20 : decode cX2_phaseIn 20 = .ok (.iaload, 1) := by decide +kernel
theorem dX2_phaseIn_21 : decode cX2_phaseIn 21 = .ok (.irem, 1) := by decide +kernel
theorem dX2_phaseIn_22 : decode cX2_phaseIn 22 = .ok (.ireturn, 1) := by decide +kernel
set_option maxRecDepth 20000 in
theorem ggX2_dueIn_X2_phaseIn : GoodIn wsX2_dueIn wsX2_phaseIn := goodIn_r _ [6, 7, 8, 9, 10, 11, 12, 13, 14, 15, 16, 17, 18, 19] (by decide +kernel) (by decide +kernel)
set_option maxRecDepth 20000 in
theorem gX2_dueIn_X2_phaseIn : GoodIn wsX2_dueIn (wsV RX2 49 RX2 yX2_phaseIn wsX2_phaseIn) := goodIn_app (goodIn_of _ (by decide +kernel)) ggX2_dueIn_X2_phaseIn
theorem dX2_dueIn_0 : decode cX2_dueIn 0 = .ok (.aload_n 0, 1) := by decide +kernel
theorem dX2_dueIn_1 : decode cX2_dueIn 1 = .ok (.iload_n 1, 1) := by decide +kernel
theorem dX2_dueIn_2 : decode cX2_dueIn 2 = .ok (.iconst 0, 1) := by decide +kernel
theorem dX2_dueIn_3 : decode cX2_dueIn 3 = .ok (.invokevirtual 49, 3) := by decide +kernel
theorem dX2_dueIn_6 : decode cX2_dueIn 6 = .ok (.aload_n 0, 1) := by decide +kernel
theorem dX2_dueIn_7 : decode cX2_dueIn 7 = .ok (.getfield 23, 3) := by decide +kernel
theorem dX2_dueIn_10 : decode cX2_dueIn 10 = .ok (.iload_n 1, 1) := by decide +kernel
theorem dX2_dueIn_11 : decode cX2_dueIn 11 = .ok (.iaload, 1) := by decide +kernel
theorem dX2_dueIn_12 : decode cX2_dueIn 12 = .ok (.if_icmp .ge 7, 3) := by decide +kernel
theorem dX2_dueIn_15 : decode cX2_dueIn 15 = .ok (.iconst 1, 1) := by decide +kernel
theorem dX2_dueIn_16 : decode cX2_dueIn 16 = .ok (.goto 4, 3) := by decide +kernel
theorem dX2_dueIn_19 : decode cX2_dueIn 19 = .ok (.iconst 0, 1) := by decide +kernel
theorem dX2_dueIn_20 : decode cX2_dueIn 20 = .ok (.ireturn, 1) := by decide +kernel
set_option maxRecDepth 20000 in
theorem ggX2_shining_X2_dueIn : GoodIn wsX2_shining wsX2_dueIn := goodIn_r _ [8, 9, 10, 11, 12, 7, 13, 14, 15, 16, 17, 18, 19, 20, 21, 22, 23, 24, 25, 26] (by decide +kernel) (by decide +kernel)
set_option maxRecDepth 20000 in
theorem gX2_shining_X2_dueIn : GoodIn wsX2_shining (wsV RX2 53 RX2 yX2_dueIn wsX2_dueIn) := goodIn_app (goodIn_of _ (by decide +kernel)) ggX2_shining_X2_dueIn
theorem dX2_shining_0 : decode cX2_shining 0 = .ok (.iconst 0, 1) := by decide +kernel
theorem dX2_shining_1 : decode cX2_shining 1 = .ok (.istore_n 1, 1) := by decide +kernel
theorem dX2_shining_2 : decode cX2_shining 2 = .ok (.iconst 0, 1) := by decide +kernel
theorem dX2_shining_3 : decode cX2_shining 3 = .ok (.istore_n 2, 1) := by decide +kernel
theorem dX2_shining_4 : decode cX2_shining 4 = .ok (.iconst 0, 1) := by decide +kernel
theorem dX2_shining_5 : decode cX2_shining 5 = .ok (.istore_n 3, 1) := by decide +kernel
theorem dX2_shining_6 : decode cX2_shining 6 = .ok (.iload_n 3, 1) := by decide +kernel
theorem dX2_shining_7 : decode cX2_shining 7 = .ok (.aload_n 0, 1) := by decide +kernel
theorem dX2_shining_8 : decode cX2_shining 8 = .ok (.getfield 38, 3) := by decide +kernel
theorem dX2_shining_11 : decode cX2_shining 11 = .ok (.if_icmp .ge 50, 3) := by decide +kernel
theorem dX2_shining_14 : decode cX2_shining 14 = .ok (.aload_n 0, 1) := by decide +kernel
theorem dX2_shining_15 : decode cX2_shining 15 = .ok (.iload_n 3, 1) := by decide +kernel
theorem dX2_shining_16 : decode cX2_shining 16 = .ok (.invokevirtual 53, 3) := by decide +kernel
theorem dX2_shining_19 : decode cX2_shining 19 = .ok (.ifCond .eq 36, 3) := by decide +kernel
theorem dX2_shining_22 : decode cX2_shining 22 = .ok (.iload_n 2, 1) := by decide +kernel
theorem dX2_shining_23 : decode cX2_shining 23 = .ok (.aload_n 0, 1) := by decide +kernel
theorem dX2_shining_24 : decode cX2_shining 24 = .ok (.getfield 26, 3) := by decide +kernel
theorem dX2_shining_27 : decode cX2_shining 27 = .ok (.iload_n 3, 1) := by decide +kernel
theorem dX2_shining_28 : decode cX2_shining 28 = .ok (.iaload, 1) := by decide +kernel
theorem dX2_shining_29 : decode cX2_shining 29 = .ok (.iadd, 1) := by decide +kernel
theorem dX2_shining_30 : decode cX2_shining 30 = .ok (.aload_n 0, 1) := by decide +kernel
theorem dX2_shining_31 : decode cX2_shining 31 = .ok (.getfield 9, 3) := by decide +kernel
theorem dX2_shining_34 : decode cX2_shining 34 = .ok (.if_icmp .le 6, 3) := by decide +kernel
theorem dX2_shining_37 : decode cX2_shining 37 = .ok (.goto 18, 3) := by decide +kernel
theorem dX2_shining_40 : decode cX2_shining 40 = .ok (.iload_n 1, 1) := by decide +kernel
theorem dX2_shining_41 : decode cX2_shining 41 = .ok (.iconst 1, 1) := by decide +kernel
theorem dX2_shining_42 : decode cX2_shining 42 = .ok (.iload_n 3, 1) := by decide +kernel
theorem dX2_shining_43 : decode cX2_shining 43 = .ok (.ishl, 1) := by decide +kernel
theorem dX2_shining_44 : decode cX2_shining 44 = .ok (.ior, 1) := by decide +kernel
theorem dX2_shining_45 : decode cX2_shining 45 = .ok (.istore_n 1, 1) := by decide +kernel
theorem dX2_shining_46 : decode cX2_shining 46 = .ok (.iload_n 2, 1) := by decide +kernel
theorem dX2_shining_47 : decode cX2_shining 47 = .ok (.aload_n 0, 1) := by decide +kernel
theorem dX2_shining_48 : decode cX2_shining 48 = .ok (.getfield 26, 3) := by decide +kernel
theorem dX2_shining_51 : decode cX2_shining 51 = .ok (.iload_n 3, 1) := by decide +kernel
theorem dX2_shining_52 : decode cX2_shining 52 = .ok (.iaload, 1) := by decide +kernel
theorem dX2_shining_53 : decode cX2_shining 53 = .ok (.iadd, 1) := by decide +kernel
theorem dX2_shining_54 : decode cX2_shining 54 = .ok (.istore_n 2, 1) := by decide +kernel
theorem dX2_shining_55 : decode cX2_shining 55 = .ok (.iinc 3 1, 3) := by decide +kernel
theorem dX2_shining_58 : decode cX2_shining 58 = .ok (.goto (-52), 3) := by decide +kernel
theorem dX2_shining_61 : decode cX2_shining 61 = .ok (.iload_n 1, 1) := by decide +kernel
theorem dX2_shining_62 : decode cX2_shining 62 = .ok (.ireturn, 1) := by decide +kernel
theorem dX2_powerOf_0 : decode cX2_powerOf 0 = .ok (.iconst 0, 1) := by decide +kernel
theorem dX2_powerOf_1 : decode cX2_powerOf 1 = .ok (.istore_n 2, 1) := by decide +kernel
theorem dX2_powerOf_2 : decode cX2_powerOf 2 = .ok (.iconst 0, 1) := by decide +kernel
theorem dX2_powerOf_3 : decode cX2_powerOf 3 = .ok (.istore_n 3, 1) := by decide +kernel
theorem dX2_powerOf_4 : decode cX2_powerOf 4 = .ok (.iload_n 3, 1) := by decide +kernel
theorem dX2_powerOf_5 : decode cX2_powerOf 5 = .ok (.aload_n 0, 1) := by decide +kernel
theorem dX2_powerOf_6 : decode cX2_powerOf 6 = .ok (.getfield 38, 3) := by decide +kernel
theorem dX2_powerOf_9 : decode cX2_powerOf 9 = .ok (.if_icmp .ge 31, 3) := by decide +kernel
theorem dX2_powerOf_12 : decode cX2_powerOf 12 = .ok (.iload_n 2, 1) := by decide +kernel
theorem dX2_powerOf_13 : decode cX2_powerOf 13 = .ok (.iload_n 1, 1) := by decide +kernel
theorem dX2_powerOf_14 : decode cX2_powerOf 14 = .ok (.iload_n 3, 1) := by decide +kernel
theorem dX2_powerOf_15 : decode cX2_powerOf 15 = .ok (.ishr, 1) := by decide +kernel
theorem dX2_powerOf_16 : decode cX2_powerOf 16 = .ok (.iconst 1, 1) := by decide +kernel
theorem dX2_powerOf_17 : decode cX2_powerOf 17 = .ok (.iand, 1) := by decide +kernel
theorem dX2_powerOf_18 : decode cX2_powerOf 18 = .ok (.iconst 1, 1) := by decide +kernel
theorem dX2_powerOf_19 : decode cX2_powerOf 19 = .ok (.if_icmp .ne 12, 3) := by decide +kernel
theorem dX2_powerOf_22 : decode cX2_powerOf 22 = .ok (.aload_n 0, 1) := by decide +kernel
theorem dX2_powerOf_23 : decode cX2_powerOf 23 = .ok (.getfield 26, 3) := by decide +kernel
theorem dX2_powerOf_26 : decode cX2_powerOf 26 = .ok (.iload_n 3, 1) := by decide +kernel
theorem dX2_powerOf_27 : decode cX2_powerOf 27 = .ok (.iaload, 1) := by decide +kernel
theorem dX2_powerOf_28 : decode cX2_powerOf 28 = .ok (.goto 4, 3) := by decide +kernel
theorem dX2_powerOf_31 : decode cX2_powerOf 31 = .ok (.iconst 0, 1) := by decide +kernel
theorem dX2_powerOf_32 : decode cX2_powerOf 32 = .ok (.iadd, 1) := by decide +kernel
theorem dX2_powerOf_33 : decode cX2_powerOf 33 = .ok (.istore_n 2, 1) := by decide +kernel
theorem dX2_powerOf_34 : decode cX2_powerOf 34 = .ok (.iinc 3 1, 3) := by decide +kernel
theorem dX2_powerOf_37 : decode cX2_powerOf 37 = .ok (.goto (-33), 3) := by decide +kernel
theorem dX2_powerOf_40 : decode cX2_powerOf 40 = .ok (.iload_n 2, 1) := by decide +kernel
theorem dX2_powerOf_41 : decode cX2_powerOf 41 = .ok (.ireturn, 1) := by decide +kernel
set_option maxRecDepth 20000 in
theorem ggX2_beatOn_X2_shining : GoodIn wsX2_beatOn wsX2_shining := goodIn_r _ [7, 1, 8, 9, 10, 11, 12, 6, 13, 14, 15, 16, 17, 18, 2, 19, 20, 21, 22, 23, 24, 25, 26, 27, 28, 29, 30] (by decide +kernel) (by decide +kernel)
set_option maxRecDepth 20000 in
theorem gX2_beatOn_X2_shining : GoodIn wsX2_beatOn (wsV RX2 56 RX2 yX2_shining wsX2_shining) := goodIn_app (goodIn_of _ (by decide +kernel)) ggX2_beatOn_X2_shining
set_option maxRecDepth 20000 in
theorem ggX2_beatOn_X2_dueIn : GoodIn wsX2_beatOn wsX2_dueIn := goodIn_r _ [13, 14, 15, 16, 17, 6, 18, 2, 19, 20, 21, 22, 23, 24, 25, 26, 27, 28, 29, 30] (by decide +kernel) (by decide +kernel)
set_option maxRecDepth 20000 in
theorem gX2_beatOn_X2_dueIn : GoodIn wsX2_beatOn (wsV RX2 53 RX2 yX2_dueIn wsX2_dueIn) := goodIn_app (goodIn_of _ (by decide +kernel)) ggX2_beatOn_X2_dueIn
theorem dX2_beatOn_0 : decode cX2_beatOn 0 = .ok (.aload_n 0, 1) := by decide +kernel
theorem dX2_beatOn_1 : decode cX2_beatOn 1 = .ok (.invokevirtual 56, 3) := by decide +kernel
theorem dX2_beatOn_4 : decode cX2_beatOn 4 = .ok (.istore_n 1, 1) := by decide +kernel
theorem dX2_beatOn_5 : decode cX2_beatOn 5 = .ok (.iconst 0, 1) := by decide +kernel
theorem dX2_beatOn_6 : decode cX2_beatOn 6 = .ok (.istore_n 2, 1) := by decide +kernel
theorem dX2_beatOn_7 : decode cX2_beatOn 7 = .ok (.iconst 0, 1) := by decide +kernel
theorem dX2_beatOn_8 : decode cX2_beatOn 8 = .ok (.istore_n 3, 1) := by decide +kernel
theorem dX2_beatOn_9 : decode cX2_beatOn 9 = .ok (.iload_n 3, 1) := by decide +kernel
theorem dX2_beatOn_10 : decode cX2_beatOn 10 = .ok (.aload_n 0, 1) := by decide +kernel
theorem dX2_beatOn_11 : decode cX2_beatOn 11 = .ok (.getfield 38, 3) := by decide +kernel
theorem dX2_beatOn_14 : decode cX2_beatOn 14 = .ok (.if_icmp .ge 67, 3) := by decide +kernel
theorem dX2_beatOn_17 : decode cX2_beatOn 17 = .ok (.aload_n 0, 1) := by decide +kernel
theorem dX2_beatOn_18 : decode cX2_beatOn 18 = .ok (.iload_n 3, 1) := by decide +kernel
theorem dX2_beatOn_19 : decode cX2_beatOn 19 = .ok (.invokevirtual 53, 3) := by decide +kernel
theorem dX2_beatOn_22 : decode cX2_beatOn 22 = .ok (.ifCond .ne 6, 3) := by decide +kernel
theorem dX2_beatOn_25 : decode cX2_beatOn 25 = .ok (.goto 50, 3) := by decide +kernel
theorem dX2_beatOn_28 : decode cX2_beatOn 28 = .ok (.iload_n 1, 1) := by decide +kernel
theorem dX2_beatOn_29 : decode cX2_beatOn 29 = .ok (.iload_n 3, 1) := by decide +kernel
theorem dX2_beatOn_30 : decode cX2_beatOn 30 = .ok (.ishr, 1) := by decide +kernel
theorem dX2_beatOn_31 : decode cX2_beatOn 31 = .ok (.iconst 1, 1) := by decide +kernel
theorem dX2_beatOn_32 : decode cX2_beatOn 32 = .ok (.iand, 1) := by decide +kernel
theorem dX2_beatOn_33 : decode cX2_beatOn 33 = .ok (.iconst 1, 1) := by decide +kernel
theorem dX2_beatOn_34 : decode cX2_beatOn 34 = .ok (.if_icmp .ne 7, 3) := by decide +kernel
theorem dX2_beatOn_37 : decode cX2_beatOn 37 = .ok (.iconst 1, 1) := by decide +kernel
theorem dX2_beatOn_38 : decode cX2_beatOn 38 = .ok (.goto 4, 3) := by decide +kernel
theorem dX2_beatOn_41 : decode cX2_beatOn 41 = .ok (.iconst 0, 1) := by decide +kernel
theorem dX2_beatOn_42 : decode cX2_beatOn 42 = .ok (.istore 4, 2) := by decide +kernel
theorem dX2_beatOn_44 : decode cX2_beatOn 44 = .ok (.aload_n 0, 1) := by decide +kernel
theorem dX2_beatOn_45 : decode cX2_beatOn 45 = .ok (.getfield 29, 3) := by decide +kernel
theorem dX2_beatOn_48 : decode cX2_beatOn 48 = .ok (.iload 4, 2) := by decide +kernel
theorem dX2_beatOn_50 : decode cX2_beatOn 50 = .ok (.ifCond .eq 9, 3) := by decide +kernel
theorem dX2_beatOn_53 : decode cX2_beatOn 53 = .ok (.iconst 1, 1) := by decide +kernel
theorem dX2_beatOn_54 : decode cX2_beatOn 54 = .ok (.iload_n 3, 1) := by decide +kernel
theorem dX2_beatOn_55 : decode cX2_beatOn 55 = .ok (.iadd, 1) := by decide +kernel
theorem dX2_beatOn_56 : decode cX2_beatOn 56 = .ok (.goto 7, 3) := by decide +kernel
theorem dX2_beatOn_59 : decode cX2_beatOn 59 = .ok (.bipush 9, 2) := by decide +kernel
theorem dX2_beatOn_61 : decode cX2_beatOn 61 = .ok (.iload_n 3, 1) := by decide +kernel
theorem dX2_beatOn_62 : decode cX2_beatOn 62 = .ok (.iadd, 1) := by decide +kernel
theorem dX2_beatOn_63 : decode cX2_beatOn 63 = .ok (.dup2, 1) := by decide +kernel
theorem dX2_beatOn_64 : decode cX2_beatOn 64 = .ok (.iaload, 1) := by decide +kernel
theorem dX2_beatOn_65 : decode cX2_beatOn 65 = .ok (.iconst 1, 1) := by decide +kernel
theorem dX2_beatOn_66 : decode cX2_beatOn 66 = .ok (.iadd, 1) := by decide +kernel
theorem dX2_beatOn_67 : decode cX2_beatOn 67 = .ok (.iastore, 1) := by decide +kernel
theorem dX2_beatOn_68 : decode cX2_beatOn 68 = .ok (.iload 4, 2) := by decide +kernel
theorem dX2_beatOn_70 : decode cX2_beatOn 70 = .ok (.ifCond .ne 5, 3) := by decide +kernel
theorem dX2_beatOn_73 : decode cX2_beatOn 73 = .ok (.iconst 1, 1) := by decide +kernel
theorem dX2_beatOn_74 : decode cX2_beatOn 74 = .ok (.istore_n 2, 1) := by decide +kernel
theorem dX2_beatOn_75 : decode cX2_beatOn 75 = .ok (.iinc 3 1, 3) := by decide +kernel
theorem dX2_beatOn_78 : decode cX2_beatOn 78 = .ok (.goto (-69), 3) := by decide +kernel
theorem dX2_beatOn_81 : decode cX2_beatOn 81 = .ok (.aload_n 0, 1) := by decide +kernel
theorem dX2_beatOn_82 : decode cX2_beatOn 82 = .ok (.getfield 29, 3) := by decide +kernel
theorem dX2_beatOn_85 : decode cX2_beatOn 85 = .ok (.iconst 0, 1) := by decide +kernel
theorem dX2_beatOn_86 : decode cX2_beatOn 86 = .ok (.dup2, 1) := by decide +kernel
theorem dX2_beatOn_87 : decode cX2_beatOn 87 = .ok (.iaload, 1) := by decide +kernel
theorem dX2_beatOn_88 : decode cX2_beatOn 88 = .ok (.iconst 1, 1) := by decide +kernel
theorem dX2_beatOn_89 : decode cX2_beatOn 89 = .ok (.iadd, 1) := by decide +kernel
theorem dX2_beatOn_90 : decode cX2_beatOn 90 = .ok (.iastore, 1) := by decide +kernel
theorem dX2_beatOn_91 : decode cX2_beatOn 91 = .ok (.iload_n 2, 1) := by decide +kernel
theorem dX2_beatOn_92 : decode cX2_beatOn 92 = .ok (.ireturn, 1) := by decide +kernel
theorem dX2_keep_0 : decode cX2_keep 0 = .ok (.aload_n 0, 1) := by decide +kernel
theorem dX2_keep_1 : decode cX2_keep 1 = .ok (.getfield 29, 3) := by decide +kernel
theorem dX2_keep_4 : decode cX2_keep 4 = .ok (.iconst 0, 1) := by decide +kernel
theorem dX2_keep_5 : decode cX2_keep 5 = .ok (.aload_n 0, 1) := by decide +kernel
theorem dX2_keep_6 : decode cX2_keep 6 = .ok (.getfield 32, 3) := by decide +kernel
theorem dX2_keep_9 : decode cX2_keep 9 = .ok (.iconst 0, 1) := by decide +kernel
theorem dX2_keep_10 : decode cX2_keep 10 = .ok (.bipush 17, 2) := by decide +kernel
theorem dX2_keep_12 : decode cX2_keep 12 = .ok (.invokestatic 60, 3) := by decide +kernel
theorem dX2_keep_15 : decode cX2_keep 15 = .ok (.return_, 1) := by decide +kernel
theorem dX2_bringBack_0 : decode cX2_bringBack 0 = .ok (.aload_n 0, 1) := by decide +kernel
theorem dX2_bringBack_1 : decode cX2_bringBack 1 = .ok (.getfield 32, 3) := by decide +kernel
theorem dX2_bringBack_4 : decode cX2_bringBack 4 = .ok (.iconst 0, 1) := by decide +kernel
theorem dX2_bringBack_5 : decode cX2_bringBack 5 = .ok (.aload_n 0, 1) := by decide +kernel
theorem dX2_bringBack_6 : decode cX2_bringBack 6 = .ok (.getfield 29, 3) := by decide +kernel
theorem dX2_bringBack_9 : decode cX2_bringBack 9 = .ok (.iconst 0, 1) := by decide +kernel
theorem dX2_bringBack_10 : decode cX2_bringBack 10 = .ok (.bipush 17, 2) := by decide +kernel
theorem dX2_bringBack_12 : decode cX2_bringBack 12 = .ok (.invokestatic 60, 3) := by decide +kernel
theorem dX2_bringBack_15 : decode cX2_bringBack 15 = .ok (.return_, 1) := by decide +kernel
set_option maxRecDepth 20000 in
theorem ggX2_addLamp_X2_isColour : GoodIn wsX2_addLamp wsX2_isColour := goodIn_r _ [10, 11, 12, 9, 13] (by decide +kernel) (by decide +kernel)
set_option maxRecDepth 20000 in
theorem gX2_addLamp_X2_isColour : GoodIn wsX2_addLamp (va_wsS RX2 66 yX2_isColour wsX2_isColour) := goodIn_app (goodIn_of _ (by decide +kernel)) ggX2_addLamp_X2_isColour
set_option maxRecDepth 20000 in
theorem ggX2_addLamp_X2_isIn : GoodIn wsX2_addLamp wsX2_isIn := goodIn_r _ [13] (by decide +kernel) (by decide +kernel)
set_option maxRecDepth 20000 in
theorem gX2_addLamp_X2_isIn : GoodIn wsX2_addLamp (va_wsS RX2 41 yX2_isIn wsX2_isIn) := goodIn_app (goodIn_of _ (by decide +kernel)) ggX2_addLamp_X2_isIn
set_option maxRecDepth 20000 in
theorem ggX2_addLamp_X2_no : GoodIn wsX2_addLamp wsX2_no := goodIn_r _ [17, 1, 18, 19, 20, 21, 22, 23, 24, 25, 26, 27] (by decide +kernel) (by decide +kernel)
set_option maxRecDepth 20000 in
theorem gX2_addLamp_X2_no : GoodIn wsX2_addLamp (wsV RX2 69 RX2 yX2_no wsX2_no) := goodIn_app (goodIn_of _ (by decide +kernel)) ggX2_addLamp_X2_no
theorem dX2_addLamp_0 : decode cX2_addLamp 0 = .ok (.aload_n 0, 1) := by decide +kernel
theorem dX2_addLamp_1 : decode cX2_addLamp 1 = .ok (.iconst 0, 1) := by decide +kernel
theorem dX2_addLamp_2 : decode cX2_addLamp 2 = .ok (.putfield 35, 3) := by decide +kernel
theorem dX2_addLamp_5 : decode cX2_addLamp 5 = .ok (.iload_n 1, 1) := by decide +kernel
theorem dX2_addLamp_6 : decode cX2_addLamp 6 = .ok (.invokestatic 66, 3) := by decide +kernel
theorem dX2_addLamp_9 : decode cX2_addLamp 9 = .ok (.ifCond .eq 35, 3) := by decide +kernel
theorem dX2_addLamp_12 : decode cX2_addLamp 12 = .ok (.iload_n 2, 1) := by decide +kernel
theorem dX2_addLamp_13 : decode cX2_addLamp 13 = .ok (.iconst 2, 1) := by decide +kernel
theorem dX2_addLamp_14 : decode cX2_addLamp 14 = .ok (.bipush 20, 2) := by decide +kernel
theorem dX2_addLamp_16 : decode cX2_addLamp 16 = .ok (.invokestatic 41, 3) := by decide +kernel
theorem dX2_addLamp_19 : decode cX2_addLamp 19 = .ok (.ifCond .eq 25, 3) := by decide +kernel
theorem dX2_addLamp_22 : decode cX2_addLamp 22 = .ok (.iload_n 3, 1) := by decide +kernel
theorem dX2_addLamp_23 : decode cX2_addLamp 23 = .ok (.iconst 1, 1) := by decide +kernel
theorem dX2_addLamp_24 : decode cX2_addLamp 24 = .ok (.iload_n 2, 1) := by decide +kernel
theorem dX2_addLamp_25 : decode cX2_addLamp 25 = .ok (.iconst 1, 1) := by decide +kernel
theorem dX2_addLamp_26 : decode cX2_addLamp 26 = .ok (.isub, 1) := by decide +kernel
theorem dX2_addLamp_27 : decode cX2_addLamp 27 = .ok (.invokestatic 41, 3) := by decide +kernel
theorem dX2_addLamp_30 : decode cX2_addLamp 30 = .ok (.ifCond .eq 14, 3) := by decide +kernel
theorem dX2_addLamp_33 : decode cX2_addLamp 33 = .ok (.iload 4, 2) := by decide +kernel
theorem dX2_addLamp_35 : decode cX2_addLamp 35 = .ok (.iconst 1, 1) := by decide +kernel
theorem dX2_addLamp_36 : decode cX2_addLamp 36 = .ok (.bipush 9, 2) := by decide +kernel
theorem dX2_addLamp_38 : decode cX2_addLamp 38 = .ok (.invokestatic 41, 3) := by decide +kernel
theorem dX2_addLamp_41 : decode cX2_addLamp 41 = .ok (.ifCond .ne 9, 3) := by decide +kernel
theorem dX2_addLamp_44 : decode cX2_addLamp 44 = .ok (.aload_n 0, 1) := by decide +kernel
theorem dX2_addLamp_45 : decode cX2_addLamp 45 = .ok (.iconst 1, 1) := by decide +kernel
theorem dX2_addLamp_46 : decode cX2_addLamp 46 = .ok (.invokevirtual 69, 3) := by decide +kernel
theorem dX2_addLamp_49 : decode cX2_addLamp 49 = .ok (.ireturn, 1) := by decide +kernel
theorem dX2_addLamp_50 : decode cX2_addLamp 50 = .ok (.aload_n 0, 1) := by decide +kernel
theorem dX2_addLamp_51 : decode cX2_addLamp 51 = .ok (.getfield 38, 3) := by decide +kernel
theorem dX2_addLamp_54 : decode cX2_addLamp 54 = .ok (.bipush 8, 2) := by decide +kernel
theorem dX2_addLamp_56 : decode cX2_addLamp 56 = .ok (.if_icmp .ne 9, 3) := by decide +kernel
theorem dX2_addLamp_59 : decode cX2_addLamp 59 = .ok (.aload_n 0, 1) := by decide +kernel
theorem dX2_addLamp_60 : decode cX2_addLamp 60 = .ok (.iconst 2, 1) := by decide +kernel
theorem dX2_addLamp_61 : decode cX2_addLamp 61 = .ok (.invokevirtual 69, 3) := by decide +kernel
theorem dX2_addLamp_64 : decode cX2_addLamp 64 = .ok (.ireturn, 1) := by decide +kernel
theorem dX2_addLamp_65 : decode cX2_addLamp 65 = .ok (.aload_n 0, 1) := by decide +kernel
theorem dX2_addLamp_66 : decode cX2_addLamp 66 = .ok (.getfield 13, 3) := by decide +kernel
theorem dX2_addLamp_69 : decode cX2_addLamp 69 = .ok (.aload_n 0, 1) := by decide +kernel
theorem dX2_addLamp_70 : decode cX2_addLamp 70 = .ok (.getfield 38, 3) := by decide +kernel
theorem dX2_addLamp_73 : decode cX2_addLamp 73 = .ok (.iload_n 1, 1) := by decide +kernel
theorem dX2_addLamp_74 : decode cX2_addLamp 74 = .ok (.iastore, 1) := by decide +kernel
theorem dX2_addLamp_75 : decode cX2_addLamp 75 = .ok (.aload_n 0, 1) := by decide +kernel
theorem dX2_addLamp_76 : decode cX2_addLamp 76 = .ok (.getfield 17, 3) := by decide +kernel
theorem dX2_addLamp_79 : decode cX2_addLamp 79 = .ok (.aload_n 0, 1) := by decide +kernel
theorem dX2_addLamp_80 : decode cX2_addLamp 80 = .ok (.getfield 38, 3) := by decide +kernel
theorem dX2_addLamp_83 : decode cX2_addLamp 83 = .ok (.iload_n 2, 1) := by decide +kernel
theorem dX2_addLamp_84 : decode cX2_addLamp 84 = .ok (.iastore, 1) := by decide +kernel
theorem dX2_addLamp_85 : decode cX2_addLamp 85 = .ok (.aload_n 0, 1) := by decide +kernel
theorem dX2_addLamp_86 : decode cX2_addLamp 86 = .ok (.getfield 23, 3) := by decide +kernel
theorem dX2_addLamp_89 : decode cX2_addLamp 89 = .ok (.aload_n 0, 1) := by decide +kernel
theorem dX2_addLamp_90 : decode cX2_addLamp 90 = .ok (.getfield 38, 3) := by decide +kernel
theorem dX2_addLamp_93 : decode cX2_addLamp 93 = .ok (.iload_n 3, 1) := by decide +kernel
theorem dX2_addLamp_94 : decode cX2_addLamp 94 = .ok (.iastore, 1) := by decide +kernel
theorem dX2_addLamp_95 : decode cX2_addLamp 95 = .ok (.aload_n 0, 1) := by decide +kernel
theorem dX2_addLamp_96 : decode cX2_addLamp 96 = .ok (.getfield 26, 3) := by decide +kernel
theorem dX2_addLamp_99 : decode cX2_addLamp 99 = .ok (.aload_n 0, 1) := by decide +kernel
theorem dX2_addLamp_100 : decode cX2_addLamp 100 = .ok (.getfield 38, 3) := by decide +kernel
theorem dX2_addLamp_103 : decode cX2_addLamp 103 = .ok (.iload 4, 2) := by decide +kernel
theorem dX2_addLamp_105 : decode cX2_addLamp 105 = .ok (.iastore, 1) := by decide +kernel
theorem dX2_addLamp_106 : decode cX2_addLamp 106 = .ok (.aload_n 0, 1) := by decide +kernel
theorem dX2_addLamp_107 : decode cX2_addLamp 107 = .ok (.dup, 1) := by decide +kernel
theorem dX2_addLamp_108 : decode cX2_addLamp 108 = .ok (.getfield 38, 3) := by decide +kernel
theorem dX2_addLamp_111 : decode cX2_addLamp 111 = .ok (.iconst 1, 1) := by decide +kernel
theorem dX2_addLamp_112 : decode cX2_addLamp 112 = .ok (.iadd, 1) := by decide +kernel
theorem dX2_addLamp_113 : decode cX2_addLamp 113 = .ok (.putfield 38, 3) := by decide +kernel
theorem dX2_addLamp_116 : decode cX2_addLamp 116 = .ok (.aload_n 0, 1) := by decide +kernel
theorem dX2_addLamp_117 : decode cX2_addLamp 117 = .ok (.getfield 38, 3) := by decide +kernel
theorem dX2_addLamp_120 : decode cX2_addLamp 120 = .ok (.iconst 1, 1) := by decide +kernel
theorem dX2_addLamp_121 : decode cX2_addLamp 121 = .ok (.isub, 1) := by decide +kernel
theorem dX2_addLamp_122 : decode cX2_addLamp 122 = .ok (.ireturn, 1) := by decide +kernel
set_option maxRecDepth 20000 in
theorem ggX2_setShift_X2_isLamp : GoodIn wsX2_setShift wsX2_isLamp := goodIn_r _ [8, 9, 10, 11, 7, 12, 17, 18, 19, 20, 21, 22, 23, 24, 25, 26] (by decide +kernel) (by decide +kernel)
set_option maxRecDepth 20000 in
theorem gX2_setShift_X2_isLamp : GoodIn wsX2_setShift (wsV RX2 45 RX2 yX2_isLamp wsX2_isLamp) := goodIn_app (goodIn_of _ (by decide +kernel)) ggX2_setShift_X2_isLamp
set_option maxRecDepth 20000 in
theorem ggX2_setShift_X2_no : GoodIn wsX2_setShift wsX2_no := goodIn_r _ [16, 1, 17, 18, 19, 20, 21, 22, 23, 24, 25, 26] (by decide +kernel) (by decide +kernel)
set_option maxRecDepth 20000 in
theorem gX2_setShift_X2_no : GoodIn wsX2_setShift (wsV RX2 69 RX2 yX2_no wsX2_no) := goodIn_app (goodIn_of _ (by decide +kernel)) ggX2_setShift_X2_no
set_option maxRecDepth 20000 in
theorem ggX2_setShift_X2_isIn : GoodIn wsX2_setShift wsX2_isIn := goodIn_r _ [12] (by decide +kernel) (by decide +kernel)
set_option maxRecDepth 20000 in
theorem gX2_setShift_X2_isIn : GoodIn wsX2_setShift (va_wsS RX2 41 yX2_isIn wsX2_isIn) := goodIn_app (goodIn_of _ (by decide +kernel)) ggX2_setShift_X2_isIn
theorem dX2_setShift_0 : decode cX2_setShift 0 = .ok (.aload_n 0, 1) := by decide +kernel
theorem dX2_setShift_1 : decode cX2_setShift 1 = .ok (.iconst 0, 1) := by decide +kernel
theorem dX2_setShift_2 : decode cX2_setShift 2 = .ok (.putfield 35, 3) := by decide +kernel
theorem dX2_setShift_5 : decode cX2_setShift 5 = .ok (.aload_n 0, 1) := by decide +kernel
theorem dX2_setShift_6 : decode cX2_setShift 6 = .ok (.iload_n 1, 1) := by decide +kernel
theorem dX2_setShift_7 : decode cX2_setShift 7 = .ok (.invokevirtual 45, 3) := by decide +kernel
theorem dX2_setShift_10 : decode cX2_setShift 10 = .ok (.ifCond .ne 9, 3) := by decide +kernel
theorem dX2_setShift_13 : decode cX2_setShift 13 = .ok (.aload_n 0, 1) := by decide +kernel
theorem dX2_setShift_14 : decode cX2_setShift 14 = .ok (.iconst 1, 1) := by decide +kernel
theorem dX2_setShift_15 : decode cX2_setShift 15 = .ok (.invokevirtual 69, 3) := by decide +kernel
theorem dX2_setShift_18 : decode cX2_setShift 18 = .ok (.ireturn, 1) := by decide +kernel
theorem dX2_setShift_19 : decode cX2_setShift 19 = .ok (.iload_n 2, 1) := by decide +kernel
theorem dX2_setShift_20 : decode cX2_setShift 20 = .ok (.iconst 0, 1) := by decide +kernel
theorem dX2_setShift_21 : decode cX2_setShift 21 = .ok (.aload_n 0, 1) := by decide +kernel
theorem dX2_setShift_22 : decode cX2_setShift 22 = .ok (.getfield 17, 3) := by decide +kernel
theorem dX2_setShift_25 : decode cX2_setShift 25 = .ok (.iload_n 1, 1) := by decide +kernel
theorem dX2_setShift_26 : decode cX2_setShift 26 = .ok (.iaload, 1) := by decide +kernel
theorem dX2_setShift_27 : decode cX2_setShift 27 = .ok (.iconst 1, 1) := by decide +kernel
theorem dX2_setShift_28 : decode cX2_setShift 28 = .ok (.isub, 1) := by decide +kernel
theorem dX2_setShift_29 : decode cX2_setShift 29 = .ok (.invokestatic 41, 3) := by decide +kernel
theorem dX2_setShift_32 : decode cX2_setShift 32 = .ok (.ifCond .ne 9, 3) := by decide +kernel
theorem dX2_setShift_35 : decode cX2_setShift 35 = .ok (.aload_n 0, 1) := by decide +kernel
theorem dX2_setShift_36 : decode cX2_setShift 36 = .ok (.iconst 2, 1) := by decide +kernel
theorem dX2_setShift_37 : decode cX2_setShift 37 = .ok (.invokevirtual 69, 3) := by decide +kernel
theorem dX2_setShift_40 : decode cX2_setShift 40 = .ok (.ireturn, 1) := by decide +kernel
theorem dX2_setShift_41 : decode cX2_setShift 41 = .ok (.aload_n 0, 1) := by decide +kernel
theorem dX2_setShift_42 : decode cX2_setShift 42 = .ok (.getfield 20, 3) := by decide +kernel
theorem dX2_setShift_45 : decode cX2_setShift 45 = .ok (.iload_n 1, 1) := by decide +kernel
theorem dX2_setShift_46 : decode cX2_setShift 46 = .ok (.iaload, 1) := by decide +kernel
theorem dX2_setShift_47 : decode cX2_setShift 47 = .ok (.istore_n 3, 1) := by decide +kernel
theorem dX2_setShift_48 : decode cX2_setShift 48 = .ok (.aload_n 0, 1) := by decide +kernel
theorem dX2_setShift_49 : decode cX2_setShift 49 = .ok (.getfield 20, 3) := by decide +kernel
theorem dX2_setShift_52 : decode cX2_setShift 52 = .ok (.iload_n 1, 1) := by decide +kernel
theorem dX2_setShift_53 : decode cX2_setShift 53 = .ok (.iload_n 2, 1) := by decide +kernel
theorem dX2_setShift_54 : decode cX2_setShift 54 = .ok (.iastore, 1) := by decide +kernel
theorem dX2_setShift_55 : decode cX2_setShift 55 = .ok (.iload_n 3, 1) := by decide +kernel
theorem dX2_setShift_56 : decode cX2_setShift 56 = .ok (.ireturn, 1) := by decide +kernel
set_option maxRecDepth 20000 in
theorem ggX2_setLength_X2_isLamp : GoodIn wsX2_setLength wsX2_isLamp := goodIn_r _ [8, 9, 10, 11, 7, 12, 17, 18, 19, 20, 21, 22, 23, 24, 25, 26] (by decide +kernel) (by decide +kernel)
set_option maxRecDepth 20000 in
theorem gX2_setLength_X2_isLamp : GoodIn wsX2_setLength (wsV RX2 45 RX2 yX2_isLamp wsX2_isLamp) := goodIn_app (goodIn_of _ (by decide +kernel)) ggX2_setLength_X2_isLamp
set_option maxRecDepth 20000 in
theorem ggX2_setLength_X2_no : GoodIn wsX2_setLength wsX2_no := goodIn_r _ [16, 1, 17, 18, 19, 20, 21, 22, 23, 24, 25, 26] (by decide +kernel) (by decide +kernel)
set_option maxRecDepth 20000 in
theorem gX2_setLength_X2_no : GoodIn wsX2_setLength (wsV RX2 69 RX2 yX2_no wsX2_no) := goodIn_app (goodIn_of _ (by decide +kernel)) ggX2_setLength_X2_no
set_option maxRecDepth 20000 in
theorem ggX2_setLength_X2_isIn : GoodIn wsX2_setLength wsX2_isIn := goodIn_r _ [12] (by decide +kernel) (by decide +kernel)
set_option maxRecDepth 20000 in
theorem gX2_setLength_X2_isIn : GoodIn wsX2_setLength (va_wsS RX2 41 yX2_isIn wsX2_isIn) := goodIn_app (goodIn_of _ (by decide +kernel)) ggX2_setLength_X2_isIn
theorem dX2_setLength_0 : decode cX2_setLength 0 = .ok (.aload_n 0, 1) := by decide +kernel
theorem dX2_setLength_1 : decode cX2_setLength 1 = .ok (.iconst 0, 1) := by decide +kernel
theorem dX2_setLength_2 : decode cX2_setLength 2 = .ok (.putfield 35, 3) := by decide +kernel
theorem dX2_setLength_5 : decode cX2_setLength 5 = .ok (.aload_n 0, 1) := by decide +kernel
theorem dX2_setLength_6 : decode cX2_setLength 6 = .ok (.iload_n 1, 1) := by decide +kernel
theorem dX2_setLength_7 : decode cX2_setLength 7 = .ok (.invokevirtual 45, 3) := by decide +kernel
theorem dX2_setLength_10 : decode cX2_setLength 10 = .ok (.ifCond .ne 9, 3) := by decide +kernel
theorem dX2_setLength_13 : decode cX2_setLength 13 = .ok (.aload_n 0, 1) := by decide +kernel
theorem dX2_setLength_14 : decode cX2_setLength 14 = .ok (.iconst 1, 1) := by decide +kernel
theorem dX2_setLength_15 : decode cX2_setLength 15 = .ok (.invokevirtual 69, 3) := by decide +kernel
theorem dX2_setLength_18 : decode cX2_setLength 18 = .ok (.ireturn, 1) := by decide +kernel
theorem dX2_setLength_19 : decode cX2_setLength 19 = .ok (.iload_n 2, 1) := by decide +kernel
theorem dX2_setLength_20 : decode cX2_setLength 20 = .ok (.iconst 1, 1) := by decide +kernel
theorem dX2_setLength_21 : decode cX2_setLength 21 = .ok (.aload_n 0, 1) := by decide +kernel
theorem dX2_setLength_22 : decode cX2_setLength 22 = .ok (.getfield 17, 3) := by decide +kernel
theorem dX2_setLength_25 : decode cX2_setLength 25 = .ok (.iload_n 1, 1) := by decide +kernel
theorem dX2_setLength_26 : decode cX2_setLength 26 = .ok (.iaload, 1) := by decide +kernel
theorem dX2_setLength_27 : decode cX2_setLength 27 = .ok (.iconst 1, 1) := by decide +kernel
theorem dX2_setLength_28 : decode cX2_setLength 28 = .ok (.isub, 1) := by decide +kernel
theorem dX2_setLength_29 : decode cX2_setLength 29 = .ok (.invokestatic 41, 3) := by decide +kernel
theorem dX2_setLength_32 : decode cX2_setLength 32 = .ok (.ifCond .ne 9, 3) := by decide +kernel
theorem dX2_setLength_35 : decode cX2_setLength 35 = .ok (.aload_n 0, 1) := by decide +kernel
theorem dX2_setLength_36 : decode cX2_setLength 36 = .ok (.iconst 2, 1) := by decide +kernel
theorem dX2_setLength_37 : decode cX2_setLength 37 = .ok (.invokevirtual 69, 3) := by decide +kernel
theorem dX2_setLength_40 : decode cX2_setLength 40 = .ok (.ireturn, 1) := by decide +kernel
theorem dX2_setLength_41 : decode cX2_setLength 41 = .ok (.aload_n 0, 1) := by decide +kernel
theorem dX2_setLength_42 : decode cX2_setLength 42 = .ok (.getfield 23, 3) := by decide +kernel
theorem dX2_setLength_45 : decode cX2_setLength 45 = .ok (.iload_n 1, 1) := by decide +kernel
theorem dX2_setLength_46 : decode cX2_setLength 46 = .ok (.iaload, 1) := by decide +kernel
theorem dX2_setLength_47 : decode cX2_setLength 47 = .ok (.istore_n 3, 1) := by decide +kernel
theorem dX2_setLength_48 : decode cX2_setLength 48 = .ok (.aload_n 0, 1) := by decide +kernel
theorem dX2_setLength_49 : decode cX2_setLength 49 = .ok (.getfield 23, 3) := by decide +kernel
theorem dX2_setLength_52 : decode cX2_setLength 52 = .ok (.iload_n 1, 1) := by decide +kernel
theorem dX2_setLength_53 : decode cX2_setLength 53 = .ok (.iload_n 2, 1) := by decide +kernel
theorem dX2_setLength_54 : decode cX2_setLength 54 = .ok (.iastore, 1) := by decide +kernel
theorem dX2_setLength_55 : decode cX2_setLength 55 = .ok (.iload_n 3, 1) := by decide +kernel
theorem dX2_setLength_56 : decode cX2_setLength 56 = .ok (.ireturn, 1) := by decide +kernel
set_option maxRecDepth 20000 in
theorem ggX2_swapColours_X2_areLamps : GoodIn wsX2_swapColours wsX2_areLamps := goodIn_r _ [7, 8, 9, 10, 6, 11, 12, 13, 14, 15, 20, 21, 22, 23, 24, 25, 26, 27, 28, 29] (by decide +kernel) (by decide +kernel)
set_option maxRecDepth 20000 in
theorem gX2_swapColours_X2_areLamps : GoodIn wsX2_swapColours (wsV RX2 73 RX2 yX2_areLamps wsX2_areLamps) := goodIn_app (goodIn_of _ (by decide +kernel)) ggX2_swapColours_X2_areLamps
set_option maxRecDepth 20000 in
theorem ggX2_swapColours_X2_isNot : GoodIn wsX2_swapColours wsX2_isNot := goodIn_r _ [19, 1, 20, 21, 22, 23, 24, 25, 26, 27, 28, 29] (by decide +kernel) (by decide +kernel)
set_option maxRecDepth 20000 in
theorem gX2_swapColours_X2_isNot : GoodIn wsX2_swapColours (wsV RX2 77 RX2 yX2_isNot wsX2_isNot) := goodIn_app (goodIn_of _ (by decide +kernel)) ggX2_swapColours_X2_isNot
theorem dX2_swapColours_0 : decode cX2_swapColours 0 = .ok (.aload_n 0, 1) := by decide +kernel
theorem dX2_swapColours_1 : decode cX2_swapColours 1 = .ok (.iconst 0, 1) := by decide +kernel
theorem dX2_swapColours_2 : decode cX2_swapColours 2 = .ok (.putfield 35, 3) := by decide +kernel
theorem dX2_swapColours_5 : decode cX2_swapColours 5 = .ok (.aload_n 0, 1) := by decide +kernel
theorem dX2_swapColours_6 : decode cX2_swapColours 6 = .ok (.iload_n 1, 1) := by decide +kernel
theorem dX2_swapColours_7 : decode cX2_swapColours 7 = .ok (.iload_n 2, 1) := by decide +kernel
theorem dX2_swapColours_8 : decode cX2_swapColours 8 = .ok (.invokevirtual 73, 3) := by decide +kernel
theorem dX2_swapColours_11 : decode cX2_swapColours 11 = .ok (.ifCond .ne 9, 3) := by decide +kernel
theorem dX2_swapColours_14 : decode cX2_swapColours 14 = .ok (.aload_n 0, 1) := by decide +kernel
theorem dX2_swapColours_15 : decode cX2_swapColours 15 = .ok (.iconst 1, 1) := by decide +kernel
theorem dX2_swapColours_16 : decode cX2_swapColours 16 = .ok (.invokevirtual 77, 3) := by decide +kernel
theorem dX2_swapColours_19 : decode cX2_swapColours 19 = .ok (.ireturn, 1) := by decide +kernel
theorem dX2_swapColours_20 : decode cX2_swapColours 20 = .ok (.iload_n 1, 1) := by decide +kernel
theorem dX2_swapColours_21 : decode cX2_swapColours 21 = .ok (.iload_n 2, 1) := by decide +kernel
theorem dX2_swapColours_22 : decode cX2_swapColours 22 = .ok (.if_icmp .ne 9, 3) := by decide +kernel
theorem dX2_swapColours_25 : decode cX2_swapColours 25 = .ok (.aload_n 0, 1) := by decide +kernel
theorem dX2_swapColours_26 : decode cX2_swapColours 26 = .ok (.iconst 2, 1) := by decide +kernel
theorem dX2_swapColours_27 : decode cX2_swapColours 27 = .ok (.invokevirtual 77, 3) := by decide +kernel
theorem dX2_swapColours_30 : decode cX2_swapColours 30 = .ok (.ireturn, 1) := by decide +kernel
theorem dX2_swapColours_31 : decode cX2_swapColours 31 = .ok (.aload_n 0, 1) := by decide +kernel
theorem dX2_swapColours_32 : decode cX2_swapColours 32 = .ok (.getfield 13, 3) := by decide +kernel
theorem dX2_swapColours_35 : decode cX2_swapColours 35 = .ok (.iload_n 1, 1) := by decide +kernel
theorem dX2_swapColours_36 : decode cX2_swapColours 36 = .ok (.iaload, 1) := by decide +kernel
theorem dX2_swapColours_37 : decode cX2_swapColours 37 = .ok (.istore_n 3, 1) := by decide +kernel
theorem dX2_swapColours_38 : decode cX2_swapColours 38 = .ok (.aload_n 0, 1) := by decide +kernel
theorem dX2_swapColours_39 : decode cX2_swapColours 39 = .ok (.getfield 13, 3) := by decide +kernel
theorem dX2_swapColours_42 : decode cX2_swapColours 42 = .ok (.iload_n 1, 1) := by decide +kernel
theorem dX2_swapColours_43 : decode cX2_swapColours 43 = .ok (.aload_n 0, 1) := by decide +kernel
theorem dX2_swapColours_44 : decode cX2_swapColours 44 = .ok (.getfield 13, 3) := by decide +kernel
theorem dX2_swapColours_47 : decode cX2_swapColours 47 = .ok (.iload_n 2, 1) := by decide +kernel
theorem dX2_swapColours_48 : decode cX2_swapColours 48 = .ok (.iaload, 1) := by decide +kernel
theorem dX2_swapColours_49 : decode cX2_swapColours 49 = .ok (.iastore, 1) := by decide +kernel
theorem dX2_swapColours_50 : decode cX2_swapColours 50 = .ok (.aload_n 0, 1) := by decide +kernel
theorem dX2_swapColours_51 : decode cX2_swapColours 51 = .ok (.getfield 13, 3) := by decide +kernel
theorem dX2_swapColours_54 : decode cX2_swapColours 54 = .ok (.iload_n 2, 1) := by decide +kernel
theorem dX2_swapColours_55 : decode cX2_swapColours 55 = .ok (.iload_n 3, 1) := by decide +kernel
theorem dX2_swapColours_56 : decode cX2_swapColours 56 = .ok (.iastore, 1) := by decide +kernel
theorem dX2_swapColours_57 : decode cX2_swapColours 57 = .ok (.iload_n 3, 1) := by decide +kernel
theorem dX2_swapColours_58 : decode cX2_swapColours 58 = .ok (.aload_n 0, 1) := by decide +kernel
theorem dX2_swapColours_59 : decode cX2_swapColours 59 = .ok (.getfield 13, 3) := by decide +kernel
theorem dX2_swapColours_62 : decode cX2_swapColours 62 = .ok (.iload_n 1, 1) := by decide +kernel
theorem dX2_swapColours_63 : decode cX2_swapColours 63 = .ok (.iaload, 1) := by decide +kernel
theorem dX2_swapColours_64 : decode cX2_swapColours 64 = .ok (.if_icmp .eq 7, 3) := by decide +kernel
theorem dX2_swapColours_67 : decode cX2_swapColours 67 = .ok (.iconst 1, 1) := by decide +kernel
theorem dX2_swapColours_68 : decode cX2_swapColours 68 = .ok (.goto 4, 3) := by decide +kernel
theorem dX2_swapColours_71 : decode cX2_swapColours 71 = .ok (.iconst 0, 1) := by decide +kernel
theorem dX2_swapColours_72 : decode cX2_swapColours 72 = .ok (.ireturn, 1) := by decide +kernel
set_option maxRecDepth 20000 in
theorem ggX2_setLimit_X2_isIn : GoodIn wsX2_setLimit wsX2_isIn := goodIn_r _ [6] (by decide +kernel) (by decide +kernel)
set_option maxRecDepth 20000 in
theorem gX2_setLimit_X2_isIn : GoodIn wsX2_setLimit (va_wsS RX2 41 yX2_isIn wsX2_isIn) := goodIn_app (goodIn_of _ (by decide +kernel)) ggX2_setLimit_X2_isIn
set_option maxRecDepth 20000 in
theorem ggX2_setLimit_X2_no : GoodIn wsX2_setLimit wsX2_no := goodIn_r _ [10, 1, 11, 12, 13, 14, 15, 16, 17, 18, 19, 20] (by decide +kernel) (by decide +kernel)
set_option maxRecDepth 20000 in
theorem gX2_setLimit_X2_no : GoodIn wsX2_setLimit (wsV RX2 69 RX2 yX2_no wsX2_no) := goodIn_app (goodIn_of _ (by decide +kernel)) ggX2_setLimit_X2_no
theorem dX2_setLimit_0 : decode cX2_setLimit 0 = .ok (.aload_n 0, 1) := by decide +kernel
theorem dX2_setLimit_1 : decode cX2_setLimit 1 = .ok (.iconst 0, 1) := by decide +kernel
theorem dX2_setLimit_2 : decode cX2_setLimit 2 = .ok (.putfield 35, 3) := by decide +kernel
theorem dX2_setLimit_5 : decode cX2_setLimit 5 = .ok (.iload_n 1, 1) := by decide +kernel
theorem dX2_setLimit_6 : decode cX2_setLimit 6 = .ok (.iconst 0, 1) := by decide +kernel
theorem dX2_setLimit_7 : decode cX2_setLimit 7 = .ok (.bipush 99, 2) := by decide +kernel
theorem dX2_setLimit_9 : decode cX2_setLimit 9 = .ok (.invokestatic 41, 3) := by decide +kernel
theorem dX2_setLimit_12 : decode cX2_setLimit 12 = .ok (.ifCond .ne 9, 3) := by decide +kernel
theorem dX2_setLimit_15 : decode cX2_setLimit 15 = .ok (.aload_n 0, 1) := by decide +kernel
theorem dX2_setLimit_16 : decode cX2_setLimit 16 = .ok (.iconst 1, 1) := by decide +kernel
theorem dX2_setLimit_17 : decode cX2_setLimit 17 = .ok (.invokevirtual 69, 3) := by decide +kernel
theorem dX2_setLimit_20 : decode cX2_setLimit 20 = .ok (.ireturn, 1) := by decide +kernel
theorem dX2_setLimit_21 : decode cX2_setLimit 21 = .ok (.aload_n 0, 1) := by decide +kernel
theorem dX2_setLimit_22 : decode cX2_setLimit 22 = .ok (.getfield 9, 3) := by decide +kernel
theorem dX2_setLimit_25 : decode cX2_setLimit 25 = .ok (.istore_n 2, 1) := by decide +kernel
theorem dX2_setLimit_26 : decode cX2_setLimit 26 = .ok (.aload_n 0, 1) := by decide +kernel
theorem dX2_setLimit_27 : decode cX2_setLimit 27 = .ok (.iload_n 1, 1) := by decide +kernel
theorem dX2_setLimit_28 : decode cX2_setLimit 28 = .ok (.putfield 9, 3) := by decide +kernel
theorem dX2_setLimit_31 : decode cX2_setLimit 31 = .ok (.iload_n 2, 1) := by decide +kernel
theorem dX2_setLimit_32 : decode cX2_setLimit 32 = .ok (.ireturn, 1) := by decide +kernel
set_option maxRecDepth 20000 in
theorem ggX2_pass_X2_isIn : GoodIn wsX2_pass wsX2_isIn := goodIn_r _ [5] (by decide +kernel) (by decide +kernel)
set_option maxRecDepth 20000 in
theorem gX2_pass_X2_isIn : GoodIn wsX2_pass (va_wsS RX2 41 yX2_isIn wsX2_isIn) := goodIn_app (goodIn_of _ (by decide +kernel)) ggX2_pass_X2_isIn
set_option maxRecDepth 20000 in
theorem ggX2_pass_X2_no : GoodIn wsX2_pass wsX2_no := goodIn_r _ [9, 1, 33, 34, 35, 36, 37, 38, 39, 40, 41, 42] (by decide +kernel) (by decide +kernel)
set_option maxRecDepth 20000 in
theorem gX2_pass_X2_no : GoodIn wsX2_pass (wsV RX2 69 RX2 yX2_no wsX2_no) := goodIn_app (goodIn_of _ (by decide +kernel)) ggX2_pass_X2_no
set_option maxRecDepth 20000 in
theorem ggX2_pass_X2_beatOn : GoodIn wsX2_pass wsX2_beatOn := goodIn_r _ [13, 14, 15, 16, 17, 18, 4, 19, 20, 21, 22, 23, 24, 25, 26, 27, 28, 29, 30, 31, 32, 33, 34, 35, 36, 37, 38, 39, 40, 41, 42] (by decide +kernel) (by decide +kernel)
set_option maxRecDepth 20000 in
theorem gX2_pass_X2_beatOn : GoodIn wsX2_pass (wsV RX2 80 RX2 yX2_beatOn wsX2_beatOn) := goodIn_app (goodIn_of _ (by decide +kernel)) ggX2_pass_X2_beatOn
theorem dX2_pass_0 : decode cX2_pass 0 = .ok (.aload_n 0, 1) := by decide +kernel
theorem dX2_pass_1 : decode cX2_pass 1 = .ok (.iconst 0, 1) := by decide +kernel
theorem dX2_pass_2 : decode cX2_pass 2 = .ok (.putfield 35, 3) := by decide +kernel
theorem dX2_pass_5 : decode cX2_pass 5 = .ok (.iload_n 1, 1) := by decide +kernel
theorem dX2_pass_6 : decode cX2_pass 6 = .ok (.iconst 1, 1) := by decide +kernel
theorem dX2_pass_7 : decode cX2_pass 7 = .ok (.sipush 200, 3) := by decide +kernel
theorem dX2_pass_10 : decode cX2_pass 10 = .ok (.invokestatic 41, 3) := by decide +kernel
theorem dX2_pass_13 : decode cX2_pass 13 = .ok (.ifCond .ne 9, 3) := by decide +kernel
theorem dX2_pass_16 : decode cX2_pass 16 = .ok (.aload_n 0, 1) := by decide +kernel
theorem dX2_pass_17 : decode cX2_pass 17 = .ok (.iconst 1, 1) := by decide +kernel
theorem dX2_pass_18 : decode cX2_pass 18 = .ok (.invokevirtual 69, 3) := by decide +kernel
theorem dX2_pass_21 : decode cX2_pass 21 = .ok (.ireturn, 1) := by decide +kernel
theorem dX2_pass_22 : decode cX2_pass 22 = .ok (.iconst 0, 1) := by decide +kernel
theorem dX2_pass_23 : decode cX2_pass 23 = .ok (.istore_n 2, 1) := by decide +kernel
theorem dX2_pass_24 : decode cX2_pass 24 = .ok (.iconst 0, 1) := by decide +kernel
theorem dX2_pass_25 : decode cX2_pass 25 = .ok (.istore_n 3, 1) := by decide +kernel
theorem dX2_pass_26 : decode cX2_pass 26 = .ok (.iload_n 3, 1) := by decide +kernel
theorem dX2_pass_27 : decode cX2_pass 27 = .ok (.iload_n 1, 1) := by decide +kernel
theorem dX2_pass_28 : decode cX2_pass 28 = .ok (.if_icmp .ge 16, 3) := by decide +kernel
theorem dX2_pass_31 : decode cX2_pass 31 = .ok (.iload_n 2, 1) := by decide +kernel
theorem dX2_pass_32 : decode cX2_pass 32 = .ok (.aload_n 0, 1) := by decide +kernel
theorem dX2_pass_33 : decode cX2_pass 33 = .ok (.invokevirtual 80, 3) := by decide +kernel
theorem dX2_pass_36 : decode cX2_pass 36 = .ok (.iadd, 1) := by decide +kernel
theorem dX2_pass_37 : decode cX2_pass 37 = .ok (.istore_n 2, 1) := by decide +kernel
theorem dX2_pass_38 : decode cX2_pass 38 = .ok (.iinc 3 1, 3) := by decide +kernel
theorem dX2_pass_41 : decode cX2_pass 41 = .ok (.goto (-15), 3) := by decide +kernel
theorem dX2_pass_44 : decode cX2_pass 44 = .ok (.iload_n 2, 1) := by decide +kernel
theorem dX2_pass_45 : decode cX2_pass 45 = .ok (.ireturn, 1) := by decide +kernel
set_option maxRecDepth 20000 in
theorem ggX2_beat_X2_ok : GoodIn wsX2_beat wsX2_ok := goodIn_r _ [6, 7, 8, 9, 10, 11, 12, 13, 14, 15, 16, 17] (by decide +kernel) (by decide +kernel)
set_option maxRecDepth 20000 in
theorem gX2_beat_X2_ok : GoodIn wsX2_beat (wsV RX2 83 RX2 yX2_ok wsX2_ok) := goodIn_app (goodIn_of _ (by decide +kernel)) ggX2_beat_X2_ok
theorem dX2_beat_0 : decode cX2_beat 0 = .ok (.aload_n 0, 1) := by decide +kernel
theorem dX2_beat_1 : decode cX2_beat 1 = .ok (.aload_n 0, 1) := by decide +kernel
theorem dX2_beat_2 : decode cX2_beat 2 = .ok (.getfield 29, 3) := by decide +kernel
theorem dX2_beat_5 : decode cX2_beat 5 = .ok (.iconst 0, 1) := by decide +kernel
theorem dX2_beat_6 : decode cX2_beat 6 = .ok (.iaload, 1) := by decide +kernel
theorem dX2_beat_7 : decode cX2_beat 7 = .ok (.invokevirtual 83, 3) := by decide +kernel
theorem dX2_beat_10 : decode cX2_beat 10 = .ok (.ireturn, 1) := by decide +kernel
set_option maxRecDepth 20000 in
theorem ggX2_lamps_X2_ok : GoodIn wsX2_lamps wsX2_ok := goodIn_r _ [6, 7, 8, 9, 10, 11, 12, 13, 14, 15, 16, 17] (by decide +kernel) (by decide +kernel)
set_option maxRecDepth 20000 in
theorem gX2_lamps_X2_ok : GoodIn wsX2_lamps (wsV RX2 83 RX2 yX2_ok wsX2_ok) := goodIn_app (goodIn_of _ (by decide +kernel)) ggX2_lamps_X2_ok
theorem dX2_lamps_0 : decode cX2_lamps 0 = .ok (.aload_n 0, 1) := by decide +kernel
theorem dX2_lamps_1 : decode cX2_lamps 1 = .ok (.aload_n 0, 1) := by decide +kernel
theorem dX2_lamps_2 : decode cX2_lamps 2 = .ok (.getfield 38, 3) := by decide +kernel
theorem dX2_lamps_5 : decode cX2_lamps 5 = .ok (.invokevirtual 83, 3) := by decide +kernel
theorem dX2_lamps_8 : decode cX2_lamps 8 = .ok (.ireturn, 1) := by decide +kernel
set_option maxRecDepth 20000 in
theorem ggX2_limit_X2_ok : GoodIn wsX2_limit wsX2_ok := goodIn_r _ [6, 7, 8, 9, 10, 11, 12, 13, 14, 15, 16, 17] (by decide +kernel) (by decide +kernel)
set_option maxRecDepth 20000 in
theorem gX2_limit_X2_ok : GoodIn wsX2_limit (wsV RX2 83 RX2 yX2_ok wsX2_ok) := goodIn_app (goodIn_of _ (by decide +kernel)) ggX2_limit_X2_ok
theorem dX2_limit_0 : decode cX2_limit 0 = .ok (.aload_n 0, 1) := by decide +kernel
theorem dX2_limit_1 : decode cX2_limit 1 = .ok (.aload_n 0, 1) := by decide +kernel
theorem dX2_limit_2 : decode cX2_limit 2 = .ok (.getfield 9, 3) := by decide +kernel
theorem dX2_limit_5 : decode cX2_limit 5 = .ok (.invokevirtual 83, 3) := by decide +kernel
theorem dX2_limit_8 : decode cX2_limit 8 = .ok (.ireturn, 1) := by decide +kernel
set_option maxRecDepth 20000 in
theorem ggX2_power_X2_shining : GoodIn wsX2_power wsX2_shining := goodIn_r _ [5, 6, 7, 8, 9, 10, 11, 4, 12, 13, 14, 15, 16, 17, 18, 19, 20, 30, 31, 32, 33, 34, 35, 36, 37, 38, 39] (by decide +kernel) (by decide +kernel)
set_option maxRecDepth 20000 in
theorem gX2_power_X2_shining : GoodIn wsX2_power (wsV RX2 56 RX2 yX2_shining wsX2_shining) := goodIn_app (goodIn_of _ (by decide +kernel)) ggX2_power_X2_shining
set_option maxRecDepth 20000 in
theorem ggX2_power_X2_powerOf : GoodIn wsX2_power wsX2_powerOf := goodIn_r _ [24, 6, 7, 30, 31, 32, 33, 34, 35, 36, 37, 38, 39] (by decide +kernel) (by decide +kernel)
set_option maxRecDepth 20000 in
theorem gX2_power_X2_powerOf : GoodIn wsX2_power (wsV RX2 86 RX2 yX2_powerOf wsX2_powerOf) := goodIn_app (goodIn_of _ (by decide +kernel)) ggX2_power_X2_powerOf
set_option maxRecDepth 20000 in
theorem ggX2_power_X2_ok : GoodIn wsX2_power wsX2_ok := goodIn_r _ [28, 29, 30, 31, 32, 33, 34, 35, 36, 37, 38, 39] (by decide +kernel) (by decide +kernel)
set_option maxRecDepth 20000 in
theorem gX2_power_X2_ok : GoodIn wsX2_power (wsV RX2 83 RX2 yX2_ok wsX2_ok) := goodIn_app (goodIn_of _ (by decide +kernel)) ggX2_power_X2_ok
theorem dX2_power_0 : decode cX2_power 0 = .ok (.aload_n 0, 1) := by decide +kernel
theorem dX2_power_1 : decode cX2_power 1 = .ok (.aload_n 0, 1) := by decide +kernel
theorem dX2_power_2 : decode cX2_power 2 = .ok (.aload_n 0, 1) := by decide +kernel
theorem dX2_power_3 : decode cX2_power 3 = .ok (.invokevirtual 56, 3) := by decide +kernel
theorem dX2_power_6 : decode cX2_power 6 = .ok (.invokevirtual 86, 3) := by decide +kernel
theorem dX2_power_9 : decode cX2_power 9 = .ok (.invokevirtual 83, 3) := by decide +kernel
theorem dX2_power_12 : decode cX2_power 12 = .ok (.ireturn, 1) := by decide +kernel
set_option maxRecDepth 20000 in
theorem ggX2_phaseOf_X2_isLamp : GoodIn wsX2_phaseOf wsX2_isLamp := goodIn_r _ [6, 7, 8, 9, 5, 10, 22, 23, 24, 25, 26, 27, 28, 29, 30, 31] (by decide +kernel) (by decide +kernel)
set_option maxRecDepth 20000 in
theorem gX2_phaseOf_X2_isLamp : GoodIn wsX2_phaseOf (wsV RX2 45 RX2 yX2_isLamp wsX2_isLamp) := goodIn_app (goodIn_of _ (by decide +kernel)) ggX2_phaseOf_X2_isLamp
set_option maxRecDepth 20000 in
theorem ggX2_phaseOf_X2_phaseIn : GoodIn wsX2_phaseOf wsX2_phaseIn := goodIn_r _ [14, 15, 16, 17, 22, 23, 24, 25, 26, 27, 28, 29, 30, 31] (by decide +kernel) (by decide +kernel)
set_option maxRecDepth 20000 in
theorem gX2_phaseOf_X2_phaseIn : GoodIn wsX2_phaseOf (wsV RX2 49 RX2 yX2_phaseIn wsX2_phaseIn) := goodIn_app (goodIn_of _ (by decide +kernel)) ggX2_phaseOf_X2_phaseIn
set_option maxRecDepth 20000 in
theorem ggX2_phaseOf_X2_no : GoodIn wsX2_phaseOf wsX2_no := goodIn_r _ [21, 1, 22, 23, 24, 25, 26, 27, 28, 29, 30, 31] (by decide +kernel) (by decide +kernel)
set_option maxRecDepth 20000 in
theorem gX2_phaseOf_X2_no : GoodIn wsX2_phaseOf (wsV RX2 69 RX2 yX2_no wsX2_no) := goodIn_app (goodIn_of _ (by decide +kernel)) ggX2_phaseOf_X2_no
theorem dX2_phaseOf_0 : decode cX2_phaseOf 0 = .ok (.aload_n 0, 1) := by decide +kernel
theorem dX2_phaseOf_1 : decode cX2_phaseOf 1 = .ok (.iconst 0, 1) := by decide +kernel
theorem dX2_phaseOf_2 : decode cX2_phaseOf 2 = .ok (.putfield 35, 3) := by decide +kernel
theorem dX2_phaseOf_5 : decode cX2_phaseOf 5 = .ok (.aload_n 0, 1) := by decide +kernel
theorem dX2_phaseOf_6 : decode cX2_phaseOf 6 = .ok (.iload_n 1, 1) := by decide +kernel
theorem dX2_phaseOf_7 : decode cX2_phaseOf 7 = .ok (.invokevirtual 45, 3) := by decide +kernel
theorem dX2_phaseOf_10 : decode cX2_phaseOf 10 = .ok (.ifCond .eq 12, 3) := by decide +kernel
theorem dX2_phaseOf_13 : decode cX2_phaseOf 13 = .ok (.aload_n 0, 1) := by decide +kernel
theorem dX2_phaseOf_14 : decode cX2_phaseOf 14 = .ok (.iload_n 1, 1) := by decide +kernel
theorem dX2_phaseOf_15 : decode cX2_phaseOf 15 = .ok (.iconst 0, 1) := by decide +kernel
theorem dX2_phaseOf_16 : decode cX2_phaseOf 16 = .ok (.invokevirtual 49, 3) := by decide +kernel
theorem dX2_phaseOf_19 : decode cX2_phaseOf 19 = .ok (.goto 8, 3) := by decide +kernel
theorem dX2_phaseOf_22 : decode cX2_phaseOf 22 = .ok (.aload_n 0, 1) := by decide +kernel
theorem dX2_phaseOf_23 : decode cX2_phaseOf 23 = .ok (.iconst 1, 1) := by decide +kernel
theorem dX2_phaseOf_24 : decode cX2_phaseOf 24 = .ok (.invokevirtual 69, 3) := by decide +kernel
theorem dX2_phaseOf_27 : decode cX2_phaseOf 27 = .ok (.ireturn, 1) := by decide +kernel
set_option maxRecDepth 20000 in
theorem ggX2_isDue_X2_isLamp : GoodIn wsX2_isDue wsX2_isLamp := goodIn_r _ [6, 7, 8, 9, 5, 10, 27, 28, 29, 30, 31, 32, 33, 34, 35, 36] (by decide +kernel) (by decide +kernel)
set_option maxRecDepth 20000 in
theorem gX2_isDue_X2_isLamp : GoodIn wsX2_isDue (wsV RX2 45 RX2 yX2_isLamp wsX2_isLamp) := goodIn_app (goodIn_of _ (by decide +kernel)) ggX2_isDue_X2_isLamp
set_option maxRecDepth 20000 in
theorem ggX2_isDue_X2_dueIn : GoodIn wsX2_isDue wsX2_dueIn := goodIn_r _ [14, 15, 16, 17, 18, 5, 19, 20, 21, 22, 27, 28, 29, 30, 31, 32, 33, 34, 35, 36] (by decide +kernel) (by decide +kernel)
set_option maxRecDepth 20000 in
theorem gX2_isDue_X2_dueIn : GoodIn wsX2_isDue (wsV RX2 53 RX2 yX2_dueIn wsX2_dueIn) := goodIn_app (goodIn_of _ (by decide +kernel)) ggX2_isDue_X2_dueIn
set_option maxRecDepth 20000 in
theorem ggX2_isDue_X2_isNot : GoodIn wsX2_isDue wsX2_isNot := goodIn_r _ [26, 1, 27, 28, 29, 30, 31, 32, 33, 34, 35, 36] (by decide +kernel) (by decide +kernel)
set_option maxRecDepth 20000 in
theorem gX2_isDue_X2_isNot : GoodIn wsX2_isDue (wsV RX2 77 RX2 yX2_isNot wsX2_isNot) := goodIn_app (goodIn_of _ (by decide +kernel)) ggX2_isDue_X2_isNot
theorem dX2_isDue_0 : decode cX2_isDue 0 = .ok (.aload_n 0, 1) := by decide +kernel
theorem dX2_isDue_1 : decode cX2_isDue 1 = .ok (.iconst 0, 1) := by decide +kernel
theorem dX2_isDue_2 : decode cX2_isDue 2 = .ok (.putfield 35, 3) := by decide +kernel
theorem dX2_isDue_5 : decode cX2_isDue 5 = .ok (.aload_n 0, 1) := by decide +kernel
theorem dX2_isDue_6 : decode cX2_isDue 6 = .ok (.iload_n 1, 1) := by decide +kernel
theorem dX2_isDue_7 : decode cX2_isDue 7 = .ok (.invokevirtual 45, 3) := by decide +kernel
theorem dX2_isDue_10 : decode cX2_isDue 10 = .ok (.ifCond .eq 11, 3) := by decide +kernel
theorem dX2_isDue_13 : decode cX2_isDue 13 = .ok (.aload_n 0, 1) := by decide +kernel
theorem dX2_isDue_14 : decode cX2_isDue 14 = .ok (.iload_n 1, 1) := by decide +kernel
theorem dX2_isDue_15 : decode cX2_isDue 15 = .ok (.invokevirtual 53, 3) := by decide +kernel
theorem dX2_isDue_18 : decode cX2_isDue 18 = .ok (.goto 8, 3) := by decide +kernel
theorem dX2_isDue_21 : decode cX2_isDue 21 = .ok (.aload_n 0, 1) := by decide +kernel
theorem dX2_isDue_22 : decode cX2_isDue 22 = .ok (.iconst 1, 1) := by decide +kernel
theorem dX2_isDue_23 : decode cX2_isDue 23 = .ok (.invokevirtual 77, 3) := by decide +kernel
theorem dX2_isDue_26 : decode cX2_isDue 26 = .ok (.ireturn, 1) := by decide +kernel
set_option maxRecDepth 20000 in
theorem ggX2_isShining_X2_shining : GoodIn wsX2_isShining wsX2_shining := goodIn_r _ [5, 6, 7, 8, 9, 10, 11, 4, 12, 13, 14, 15, 16, 17, 18, 19, 20, 21, 22, 23, 24, 25, 26, 27, 28, 29, 30] (by decide +kernel) (by decide +kernel)
set_option maxRecDepth 20000 in
theorem gX2_isShining_X2_shining : GoodIn wsX2_isShining (wsV RX2 56 RX2 yX2_shining wsX2_shining) := goodIn_app (goodIn_of _ (by decide +kernel)) ggX2_isShining_X2_shining
theorem dX2_isShining_0 : decode cX2_isShining 0 = .ok (.aload_n 0, 1) := by decide +kernel
theorem dX2_isShining_1 : decode cX2_isShining 1 = .ok (.invokevirtual 56, 3) := by decide +kernel
theorem dX2_isShining_4 : decode cX2_isShining 4 = .ok (.iload_n 1, 1) := by decide +kernel
theorem dX2_isShining_5 : decode cX2_isShining 5 = .ok (.ishr, 1) := by decide +kernel
theorem dX2_isShining_6 : decode cX2_isShining 6 = .ok (.iconst 1, 1) := by decide +kernel
theorem dX2_isShining_7 : decode cX2_isShining 7 = .ok (.iand, 1) := by decide +kernel
theorem dX2_isShining_8 : decode cX2_isShining 8 = .ok (.iconst 1, 1) := by decide +kernel
theorem dX2_isShining_9 : decode cX2_isShining 9 = .ok (.if_icmp .ne 7, 3) := by decide +kernel
theorem dX2_isShining_12 : decode cX2_isShining 12 = .ok (.iconst 1, 1) := by decide +kernel
theorem dX2_isShining_13 : decode cX2_isShining 13 = .ok (.goto 4, 3) := by decide +kernel
theorem dX2_isShining_16 : decode cX2_isShining 16 = .ok (.iconst 0, 1) := by decide +kernel
theorem dX2_isShining_17 : decode cX2_isShining 17 = .ok (.ireturn, 1) := by decide +kernel
set_option maxRecDepth 20000 in
theorem ggX2_shines_X2_isLamp : GoodIn wsX2_shines wsX2_isLamp := goodIn_r _ [6, 7, 8, 9, 5, 10, 37, 38, 39, 40, 41, 42, 43, 44, 45, 46] (by decide +kernel) (by decide +kernel)
set_option maxRecDepth 20000 in
theorem gX2_shines_X2_isLamp : GoodIn wsX2_shines (wsV RX2 45 RX2 yX2_isLamp wsX2_isLamp) := goodIn_app (goodIn_of _ (by decide +kernel)) ggX2_shines_X2_isLamp
set_option maxRecDepth 20000 in
theorem ggX2_shines_X2_isShining : GoodIn wsX2_shines wsX2_isShining := goodIn_r _ [14, 15, 16, 17, 5, 18, 7, 19, 20, 21, 22, 23, 24, 25, 26, 27, 28, 29, 30, 31, 32, 37, 38, 39, 40, 41, 42, 43, 44, 45, 46] (by decide +kernel) (by decide +kernel)
set_option maxRecDepth 20000 in
theorem gX2_shines_X2_isShining : GoodIn wsX2_shines (wsV RX2 89 RX2 yX2_isShining wsX2_isShining) := goodIn_app (goodIn_of _ (by decide +kernel)) ggX2_shines_X2_isShining
set_option maxRecDepth 20000 in
theorem ggX2_shines_X2_isNot : GoodIn wsX2_shines wsX2_isNot := goodIn_r _ [36, 1, 37, 38, 39, 40, 41, 42, 43, 44, 45, 46] (by decide +kernel) (by decide +kernel)
set_option maxRecDepth 20000 in
theorem gX2_shines_X2_isNot : GoodIn wsX2_shines (wsV RX2 77 RX2 yX2_isNot wsX2_isNot) := goodIn_app (goodIn_of _ (by decide +kernel)) ggX2_shines_X2_isNot
theorem dX2_shines_0 : decode cX2_shines 0 = .ok (.aload_n 0, 1) := by decide +kernel
theorem dX2_shines_1 : decode cX2_shines 1 = .ok (.iconst 0, 1) := by decide +kernel
theorem dX2_shines_2 : decode cX2_shines 2 = .ok (.putfield 35, 3) := by decide +kernel
theorem dX2_shines_5 : decode cX2_shines 5 = .ok (.aload_n 0, 1) := by decide +kernel
theorem dX2_shines_6 : decode cX2_shines 6 = .ok (.iload_n 1, 1) := by decide +kernel
theorem dX2_shines_7 : decode cX2_shines 7 = .ok (.invokevirtual 45, 3) := by decide +kernel
theorem dX2_shines_10 : decode cX2_shines 10 = .ok (.ifCond .eq 11, 3) := by decide +kernel
theorem dX2_shines_13 : decode cX2_shines 13 = .ok (.aload_n 0, 1) := by decide +kernel
theorem dX2_shines_14 : decode cX2_shines 14 = .ok (.iload_n 1, 1) := by decide +kernel
theorem dX2_shines_15 : decode cX2_shines 15 = .ok (.invokevirtual 89, 3) := by decide +kernel
theorem dX2_shines_18 : decode cX2_shines 18 = .ok (.goto 8, 3) := by decide +kernel
theorem dX2_shines_21 : decode cX2_shines 21 = .ok (.aload_n 0, 1) := by decide +kernel
theorem dX2_shines_22 : decode cX2_shines 22 = .ok (.iconst 1, 1) := by decide +kernel
theorem dX2_shines_23 : decode cX2_shines 23 = .ok (.invokevirtual 77, 3) := by decide +kernel
theorem dX2_shines_26 : decode cX2_shines 26 = .ok (.ireturn, 1) := by decide +kernel
set_option maxRecDepth 20000 in
theorem ggX2_of_X2_isLamp : GoodIn wsX2_of wsX2_isLamp := goodIn_r _ [6, 7, 8, 9, 5, 10, 15, 16, 17, 18, 19, 20, 21, 22, 23, 24] (by decide +kernel) (by decide +kernel)
set_option maxRecDepth 20000 in
theorem gX2_of_X2_isLamp : GoodIn wsX2_of (wsV RX2 45 RX2 yX2_isLamp wsX2_isLamp) := goodIn_app (goodIn_of _ (by decide +kernel)) ggX2_of_X2_isLamp
set_option maxRecDepth 20000 in
theorem ggX2_of_X2_no : GoodIn wsX2_of wsX2_no := goodIn_r _ [14, 1, 15, 16, 17, 18, 19, 20, 21, 22, 23, 24] (by decide +kernel) (by decide +kernel)
set_option maxRecDepth 20000 in
theorem gX2_of_X2_no : GoodIn wsX2_of (wsV RX2 69 RX2 yX2_no wsX2_no) := goodIn_app (goodIn_of _ (by decide +kernel)) ggX2_of_X2_no
theorem dX2_of_0 : decode cX2_of 0 = .ok (.aload_n 0, 1) := by decide +kernel
theorem dX2_of_1 : decode cX2_of 1 = .ok (.iconst 0, 1) := by decide +kernel
theorem dX2_of_2 : decode cX2_of 2 = .ok (.putfield 35, 3) := by decide +kernel
theorem dX2_of_5 : decode cX2_of 5 = .ok (.aload_n 0, 1) := by decide +kernel
theorem dX2_of_6 : decode cX2_of 6 = .ok (.iload_n 2, 1) := by decide +kernel
theorem dX2_of_7 : decode cX2_of 7 = .ok (.invokevirtual 45, 3) := by decide +kernel
theorem dX2_of_10 : decode cX2_of 10 = .ok (.ifCond .eq 9, 3) := by decide +kernel
theorem dX2_of_13 : decode cX2_of 13 = .ok (.aload_n 1, 1) := by decide +kernel
theorem dX2_of_14 : decode cX2_of 14 = .ok (.iload_n 2, 1) := by decide +kernel
theorem dX2_of_15 : decode cX2_of 15 = .ok (.iaload, 1) := by decide +kernel
theorem dX2_of_16 : decode cX2_of 16 = .ok (.goto 8, 3) := by decide +kernel
theorem dX2_of_19 : decode cX2_of 19 = .ok (.aload_n 0, 1) := by decide +kernel
theorem dX2_of_20 : decode cX2_of 20 = .ok (.iconst 1, 1) := by decide +kernel
theorem dX2_of_21 : decode cX2_of 21 = .ok (.invokevirtual 69, 3) := by decide +kernel
theorem dX2_of_24 : decode cX2_of 24 = .ok (.ireturn, 1) := by decide +kernel
set_option maxRecDepth 20000 in
theorem ggX2_colourOf_X2_of : GoodIn wsX2_colourOf wsX2_of := goodIn_r _ [6, 7, 8, 9, 10, 5, 11, 12, 13, 14, 15, 16, 17, 18, 19, 20, 21, 22, 23, 24, 25, 26, 27, 28, 29] (by decide +kernel) (by decide +kernel)
set_option maxRecDepth 20000 in
theorem gX2_colourOf_X2_of : GoodIn wsX2_colourOf (wsV RX2 92 RX2 yX2_of wsX2_of) := goodIn_app (goodIn_of _ (by decide +kernel)) ggX2_colourOf_X2_of
theorem dX2_colourOf_0 : decode cX2_colourOf 0 = .ok (.aload_n 0, 1) := by decide +kernel
theorem dX2_colourOf_1 : decode cX2_colourOf 1 = .ok (.aload_n 0, 1) := by decide +kernel
theorem dX2_colourOf_2 : decode cX2_colourOf 2 = .ok (.getfield 13, 3) := by decide +kernel
theorem dX2_colourOf_5 : decode cX2_colourOf 5 = .ok (.iload_n 1, 1) := by decide +kernel
theorem dX2_colourOf_6 : decode cX2_colourOf 6 = .ok (.invokevirtual 92, 3) := by decide +kernel
theorem dX2_colourOf_9 : decode cX2_colourOf 9 = .ok (.ireturn, 1) := by decide +kernel
set_option maxRecDepth 20000 in
theorem ggX2_shiftOf_X2_of : GoodIn wsX2_shiftOf wsX2_of := goodIn_r _ [6, 7, 8, 9, 10, 5, 11, 12, 13, 14, 15, 16, 17, 18, 19, 20, 21, 22, 23, 24, 25, 26, 27, 28, 29] (by decide +kernel) (by decide +kernel)
set_option maxRecDepth 20000 in
theorem gX2_shiftOf_X2_of : GoodIn wsX2_shiftOf (wsV RX2 92 RX2 yX2_of wsX2_of) := goodIn_app (goodIn_of _ (by decide +kernel)) ggX2_shiftOf_X2_of
theorem dX2_shiftOf_0 : decode cX2_shiftOf 0 = .ok (.aload_n 0, 1) := by decide +kernel
theorem dX2_shiftOf_1 : decode cX2_shiftOf 1 = .ok (.aload_n 0, 1) := by decide +kernel
theorem dX2_shiftOf_2 : decode cX2_shiftOf 2 = .ok (.getfield 20, 3) := by decide +kernel
theorem dX2_shiftOf_5 : decode cX2_shiftOf 5 = .ok (.iload_n 1, 1) := by decide +kernel
theorem dX2_shiftOf_6 : decode cX2_shiftOf 6 = .ok (.invokevirtual 92, 3) := by decide +kernel
theorem dX2_shiftOf_9 : decode cX2_shiftOf 9 = .ok (.ireturn, 1) := by decide +kernel
set_option maxRecDepth 20000 in
theorem ggX2_shone_X2_isLamp : GoodIn wsX2_shone wsX2_isLamp := goodIn_r _ [7, 8, 9, 10, 6, 11, 16, 17, 18, 19, 20, 21, 22, 23, 24, 25] (by decide +kernel) (by decide +kernel)
set_option maxRecDepth 20000 in
theorem gX2_shone_X2_isLamp : GoodIn wsX2_shone (wsV RX2 45 RX2 yX2_isLamp wsX2_isLamp) := goodIn_app (goodIn_of _ (by decide +kernel)) ggX2_shone_X2_isLamp
set_option maxRecDepth 20000 in
theorem ggX2_shone_X2_no : GoodIn wsX2_shone wsX2_no := goodIn_r _ [15, 1, 16, 17, 18, 19, 20, 21, 22, 23, 24, 25] (by decide +kernel) (by decide +kernel)
set_option maxRecDepth 20000 in
theorem gX2_shone_X2_no : GoodIn wsX2_shone (wsV RX2 69 RX2 yX2_no wsX2_no) := goodIn_app (goodIn_of _ (by decide +kernel)) ggX2_shone_X2_no
theorem dX2_shone_0 : decode cX2_shone 0 = .ok (.aload_n 0, 1) := by decide +kernel
theorem dX2_shone_1 : decode cX2_shone 1 = .ok (.iconst 0, 1) := by decide +kernel
theorem dX2_shone_2 : decode cX2_shone 2 = .ok (.putfield 35, 3) := by decide +kernel
theorem dX2_shone_5 : decode cX2_shone 5 = .ok (.aload_n 0, 1) := by decide +kernel
theorem dX2_shone_6 : decode cX2_shone 6 = .ok (.iload_n 1, 1) := by decide +kernel
theorem dX2_shone_7 : decode cX2_shone 7 = .ok (.invokevirtual 45, 3) := by decide +kernel
theorem dX2_shone_10 : decode cX2_shone 10 = .ok (.ifCond .eq 14, 3) := by decide +kernel
theorem dX2_shone_13 : decode cX2_shone 13 = .ok (.aload_n 0, 1) := by decide +kernel
theorem dX2_shone_14 : decode cX2_shone 14 = .ok (.getfield 29, 3) := by decide +kernel
theorem dX2_shone_17 : decode cX2_shone 17 = .ok (.iconst 1, 1) := by decide +kernel
theorem dX2_shone_18 : decode cX2_shone 18 = .ok (.iload_n 1, 1) := by decide +kernel
theorem dX2_shone_19 : decode cX2_shone 19 = .ok (.iadd, 1) := by decide +kernel
theorem dX2_shone_20 : decode cX2_shone 20 = .ok (.iaload, 1) := by decide +kernel
theorem dX2_shone_21 : decode cX2_shone 21 = .ok (.goto 8, 3) := by decide +kernel
theorem dX2_shone_24 : decode cX2_shone 24 = .ok (.aload_n 0, 1) := by decide +kernel
theorem dX2_shone_25 : decode cX2_shone 25 = .ok (.iconst 1, 1) := by decide +kernel
theorem dX2_shone_26 : decode cX2_shone 26 = .ok (.invokevirtual 69, 3) := by decide +kernel
theorem dX2_shone_29 : decode cX2_shone 29 = .ok (.ireturn, 1) := by decide +kernel
set_option maxRecDepth 20000 in
theorem ggX2_stayedDark_X2_isLamp : GoodIn wsX2_stayedDark wsX2_isLamp := goodIn_r _ [7, 8, 9, 10, 6, 11, 16, 17, 18, 19, 20, 21, 22, 23, 24, 25] (by decide +kernel) (by decide +kernel)
set_option maxRecDepth 20000 in
theorem gX2_stayedDark_X2_isLamp : GoodIn wsX2_stayedDark (wsV RX2 45 RX2 yX2_isLamp wsX2_isLamp) := goodIn_app (goodIn_of _ (by decide +kernel)) ggX2_stayedDark_X2_isLamp
set_option maxRecDepth 20000 in
theorem ggX2_stayedDark_X2_no : GoodIn wsX2_stayedDark wsX2_no := goodIn_r _ [15, 1, 16, 17, 18, 19, 20, 21, 22, 23, 24, 25] (by decide +kernel) (by decide +kernel)
set_option maxRecDepth 20000 in
theorem gX2_stayedDark_X2_no : GoodIn wsX2_stayedDark (wsV RX2 69 RX2 yX2_no wsX2_no) := goodIn_app (goodIn_of _ (by decide +kernel)) ggX2_stayedDark_X2_no
theorem dX2_stayedDark_0 : decode cX2_stayedDark 0 = .ok (.aload_n 0, 1) := by decide +kernel
theorem dX2_stayedDark_1 : decode cX2_stayedDark 1 = .ok (.iconst 0, 1) := by decide +kernel
theorem dX2_stayedDark_2 : decode cX2_stayedDark 2 = .ok (.putfield 35, 3) := by decide +kernel
theorem dX2_stayedDark_5 : decode cX2_stayedDark 5 = .ok (.aload_n 0, 1) := by decide +kernel
theorem dX2_stayedDark_6 : decode cX2_stayedDark 6 = .ok (.iload_n 1, 1) := by decide +kernel
theorem dX2_stayedDark_7 : decode cX2_stayedDark 7 = .ok (.invokevirtual 45, 3) := by decide +kernel
theorem dX2_stayedDark_10 : decode cX2_stayedDark 10 = .ok (.ifCond .eq 15, 3) := by decide +kernel
theorem dX2_stayedDark_13 : decode cX2_stayedDark 13 = .ok (.aload_n 0, 1) := by decide +kernel
theorem dX2_stayedDark_14 : decode cX2_stayedDark 14 = .ok (.getfield 29, 3) := by decide +kernel
theorem dX2_stayedDark_17 : decode cX2_stayedDark 17 = .ok (.bipush 9, 2) := by decide +kernel
theorem dX2_stayedDark_19 : decode cX2_stayedDark 19 = .ok (.iload_n 1, 1) := by decide +kernel
theorem dX2_stayedDark_20 : decode cX2_stayedDark 20 = .ok (.iadd, 1) := by decide +kernel
theorem dX2_stayedDark_21 : decode cX2_stayedDark 21 = .ok (.iaload, 1) := by decide +kernel
theorem dX2_stayedDark_22 : decode cX2_stayedDark 22 = .ok (.goto 8, 3) := by decide +kernel
theorem dX2_stayedDark_25 : decode cX2_stayedDark 25 = .ok (.aload_n 0, 1) := by decide +kernel
theorem dX2_stayedDark_26 : decode cX2_stayedDark 26 = .ok (.iconst 1, 1) := by decide +kernel
theorem dX2_stayedDark_27 : decode cX2_stayedDark 27 = .ok (.invokevirtual 69, 3) := by decide +kernel
theorem dX2_stayedDark_30 : decode cX2_stayedDark 30 = .ok (.ireturn, 1) := by decide +kernel
theorem dX2_seenOf_0 : decode cX2_seenOf 0 = .ok (.iconst 0, 1) := by decide +kernel
theorem dX2_seenOf_1 : decode cX2_seenOf 1 = .ok (.istore_n 2, 1) := by decide +kernel
theorem dX2_seenOf_2 : decode cX2_seenOf 2 = .ok (.iconst 0, 1) := by decide +kernel
theorem dX2_seenOf_3 : decode cX2_seenOf 3 = .ok (.istore_n 3, 1) := by decide +kernel
theorem dX2_seenOf_4 : decode cX2_seenOf 4 = .ok (.iload_n 3, 1) := by decide +kernel
theorem dX2_seenOf_5 : decode cX2_seenOf 5 = .ok (.aload_n 0, 1) := by decide +kernel
theorem dX2_seenOf_6 : decode cX2_seenOf 6 = .ok (.getfield 38, 3) := by decide +kernel
theorem dX2_seenOf_9 : decode cX2_seenOf 9 = .ok (.if_icmp .ge 34, 3) := by decide +kernel
theorem dX2_seenOf_12 : decode cX2_seenOf 12 = .ok (.iload_n 2, 1) := by decide +kernel
theorem dX2_seenOf_13 : decode cX2_seenOf 13 = .ok (.aload_n 0, 1) := by decide +kernel
theorem dX2_seenOf_14 : decode cX2_seenOf 14 = .ok (.getfield 13, 3) := by decide +kernel
theorem dX2_seenOf_17 : decode cX2_seenOf 17 = .ok (.iload_n 3, 1) := by decide +kernel
theorem dX2_seenOf_18 : decode cX2_seenOf 18 = .ok (.iaload, 1) := by decide +kernel
theorem dX2_seenOf_19 : decode cX2_seenOf 19 = .ok (.iload_n 1, 1) := by decide +kernel
theorem dX2_seenOf_20 : decode cX2_seenOf 20 = .ok (.if_icmp .ne 14, 3) := by decide +kernel
theorem dX2_seenOf_23 : decode cX2_seenOf 23 = .ok (.aload_n 0, 1) := by decide +kernel
theorem dX2_seenOf_24 : decode cX2_seenOf 24 = .ok (.getfield 29, 3) := by decide +kernel
theorem dX2_seenOf_27 : decode cX2_seenOf 27 = .ok (.iconst 1, 1) := by decide +kernel
theorem dX2_seenOf_28 : decode cX2_seenOf 28 = .ok (.iload_n 3, 1) := by decide +kernel
theorem dX2_seenOf_29 : decode cX2_seenOf 29 = .ok (.iadd, 1) := by decide +kernel
theorem dX2_seenOf_30 : decode cX2_seenOf 30 = .ok (.iaload, 1) := by decide +kernel
theorem dX2_seenOf_31 : decode cX2_seenOf 31 = .ok (.goto 4, 3) := by decide +kernel
theorem dX2_seenOf_34 : decode cX2_seenOf 34 = .ok (.iconst 0, 1) := by decide +kernel
theorem dX2_seenOf_35 : decode cX2_seenOf 35 = .ok (.iadd, 1) := by decide +kernel
theorem dX2_seenOf_36 : decode cX2_seenOf 36 = .ok (.istore_n 2, 1) := by decide +kernel
theorem dX2_seenOf_37 : decode cX2_seenOf 37 = .ok (.iinc 3 1, 3) := by decide +kernel
theorem dX2_seenOf_40 : decode cX2_seenOf 40 = .ok (.goto (-36), 3) := by decide +kernel
theorem dX2_seenOf_43 : decode cX2_seenOf 43 = .ok (.iload_n 2, 1) := by decide +kernel
theorem dX2_seenOf_44 : decode cX2_seenOf 44 = .ok (.ireturn, 1) := by decide +kernel
set_option maxRecDepth 20000 in
theorem ggX2_seen_X2_isColour : GoodIn wsX2_seen wsX2_isColour := goodIn_r _ [5, 6, 7, 4, 8] (by decide +kernel) (by decide +kernel)
set_option maxRecDepth 20000 in
theorem gX2_seen_X2_isColour : GoodIn wsX2_seen (va_wsS RX2 66 yX2_isColour wsX2_isColour) := goodIn_app (goodIn_of _ (by decide +kernel)) ggX2_seen_X2_isColour
set_option maxRecDepth 20000 in
theorem ggX2_seen_X2_seenOf : GoodIn wsX2_seen wsX2_seenOf := goodIn_r _ [12, 13, 14, 15, 20, 21, 22, 23, 24, 25, 26, 27, 28, 29] (by decide +kernel) (by decide +kernel)
set_option maxRecDepth 20000 in
theorem gX2_seen_X2_seenOf : GoodIn wsX2_seen (wsV RX2 96 RX2 yX2_seenOf wsX2_seenOf) := goodIn_app (goodIn_of _ (by decide +kernel)) ggX2_seen_X2_seenOf
set_option maxRecDepth 20000 in
theorem ggX2_seen_X2_no : GoodIn wsX2_seen wsX2_no := goodIn_r _ [19, 1, 20, 21, 22, 23, 24, 25, 26, 27, 28, 29] (by decide +kernel) (by decide +kernel)
set_option maxRecDepth 20000 in
theorem gX2_seen_X2_no : GoodIn wsX2_seen (wsV RX2 69 RX2 yX2_no wsX2_no) := goodIn_app (goodIn_of _ (by decide +kernel)) ggX2_seen_X2_no
theorem dX2_seen_0 : decode cX2_seen 0 = .ok (.aload_n 0, 1) := by decide +kernel
theorem dX2_seen_1 : decode cX2_seen 1 = .ok (.iconst 0, 1) := by decide +kernel
theorem dX2_seen_2 : decode cX2_seen 2 = .ok (.putfield 35, 3) := by decide +kernel
theorem dX2_seen_5 : decode cX2_seen 5 = .ok (.iload_n 1, 1) := by decide +kernel
theorem dX2_seen_6 : decode cX2_seen 6 = .ok (.invokestatic 66, 3) := by decide +kernel
theorem dX2_seen_9 : decode cX2_seen 9 = .ok (.ifCond .eq 11, 3) := by decide +kernel
theorem dX2_seen_12 : decode cX2_seen 12 = .ok (.aload_n 0, 1) := by decide +kernel
theorem dX2_seen_13 : decode cX2_seen 13 = .ok (.iload_n 1, 1) := by decide +kernel
theorem dX2_seen_14 : decode cX2_seen 14 = .ok (.invokevirtual 96, 3) := by decide +kernel
theorem dX2_seen_17 : decode cX2_seen 17 = .ok (.goto 8, 3) := by decide +kernel
theorem dX2_seen_20 : decode cX2_seen 20 = .ok (.aload_n 0, 1) := by decide +kernel
theorem dX2_seen_21 : decode cX2_seen 21 = .ok (.iconst 1, 1) := by decide +kernel
theorem dX2_seen_22 : decode cX2_seen 22 = .ok (.invokevirtual 69, 3) := by decide +kernel
theorem dX2_seen_25 : decode cX2_seen 25 = .ok (.ireturn, 1) := by decide +kernel
set_option maxRecDepth 20000 in
theorem ggX2_unfair_X2_seenOf : GoodIn wsX2_unfair wsX2_seenOf := goodIn_r _ [14, 1, 2, 15, 16, 17, 18, 19, 20, 21, 22, 23, 24, 25] (by decide +kernel) (by decide +kernel)
set_option maxRecDepth 20000 in
theorem gX2_unfair_X2_seenOf : GoodIn wsX2_unfair (wsV RX2 96 RX2 yX2_seenOf wsX2_seenOf) := goodIn_app (goodIn_of _ (by decide +kernel)) ggX2_unfair_X2_seenOf
theorem dX2_unfair_0 : decode cX2_unfair 0 = .ok (.aload_n 0, 1) := by decide +kernel
theorem dX2_unfair_1 : decode cX2_unfair 1 = .ok (.getfield 38, 3) := by decide +kernel
theorem dX2_unfair_4 : decode cX2_unfair 4 = .ok (.ifCond .ne 5, 3) := by decide +kernel
theorem dX2_unfair_7 : decode cX2_unfair 7 = .ok (.iconst 0, 1) := by decide +kernel
theorem dX2_unfair_8 : decode cX2_unfair 8 = .ok (.ireturn, 1) := by decide +kernel
theorem dX2_unfair_9 : decode cX2_unfair 9 = .ok (.aload_n 0, 1) := by decide +kernel
theorem dX2_unfair_10 : decode cX2_unfair 10 = .ok (.aload_n 0, 1) := by decide +kernel
theorem dX2_unfair_11 : decode cX2_unfair 11 = .ok (.getfield 13, 3) := by decide +kernel
theorem dX2_unfair_14 : decode cX2_unfair 14 = .ok (.iconst 0, 1) := by decide +kernel
theorem dX2_unfair_15 : decode cX2_unfair 15 = .ok (.iaload, 1) := by decide +kernel
theorem dX2_unfair_16 : decode cX2_unfair 16 = .ok (.invokevirtual 96, 3) := by decide +kernel
theorem dX2_unfair_19 : decode cX2_unfair 19 = .ok (.istore_n 1, 1) := by decide +kernel
theorem dX2_unfair_20 : decode cX2_unfair 20 = .ok (.iload_n 1, 1) := by decide +kernel
theorem dX2_unfair_21 : decode cX2_unfair 21 = .ok (.istore_n 2, 1) := by decide +kernel
theorem dX2_unfair_22 : decode cX2_unfair 22 = .ok (.iconst 1, 1) := by decide +kernel
theorem dX2_unfair_23 : decode cX2_unfair 23 = .ok (.istore_n 3, 1) := by decide +kernel
theorem dX2_unfair_24 : decode cX2_unfair 24 = .ok (.iload_n 3, 1) := by decide +kernel
theorem dX2_unfair_25 : decode cX2_unfair 25 = .ok (.aload_n 0, 1) := by decide +kernel
theorem dX2_unfair_26 : decode cX2_unfair 26 = .ok (.getfield 38, 3) := by decide +kernel
theorem dX2_unfair_29 : decode cX2_unfair 29 = .ok (.if_icmp .ge 39, 3) := by decide +kernel
theorem dX2_unfair_32 : decode cX2_unfair 32 = .ok (.iload_n 1, 1) := by decide +kernel
theorem dX2_unfair_33 : decode cX2_unfair 33 = .ok (.aload_n 0, 1) := by decide +kernel
theorem dX2_unfair_34 : decode cX2_unfair 34 = .ok (.aload_n 0, 1) := by decide +kernel
theorem dX2_unfair_35 : decode cX2_unfair 35 = .ok (.getfield 13, 3) := by decide +kernel
theorem dX2_unfair_38 : decode cX2_unfair 38 = .ok (.iload_n 3, 1) := by decide +kernel
theorem dX2_unfair_39 : decode cX2_unfair 39 = .ok (.iaload, 1) := by decide +kernel
theorem dX2_unfair_40 : decode cX2_unfair 40 = .ok (.invokevirtual 96, 3) := by decide +kernel
theorem dX2_unfair_43 : decode cX2_unfair 43 = .ok (.invokestatic 99, 3) := by decide +kernel
theorem dX2_unfair_46 : decode cX2_unfair 46 = .ok (.istore_n 1, 1) := by decide +kernel
theorem dX2_unfair_47 : decode cX2_unfair 47 = .ok (.iload_n 2, 1) := by decide +kernel
theorem dX2_unfair_48 : decode cX2_unfair 48 = .ok (.aload_n 0, 1) := by decide +kernel
theorem dX2_unfair_49 : decode cX2_unfair 49 = .ok (.aload_n 0, 1) := by decide +kernel
theorem dX2_unfair_50 : decode cX2_unfair 50 = .ok (.getfield 13, 3) := by decide +kernel
theorem dX2_unfair_53 : decode cX2_unfair 53 = .ok (.iload_n 3, 1) := by decide +kernel
theorem dX2_unfair_54 : decode cX2_unfair 54 = .ok (.iaload, 1) := by decide +kernel
theorem dX2_unfair_55 : decode cX2_unfair 55 = .ok (.invokevirtual 96, 3) := by decide +kernel
theorem dX2_unfair_58 : decode cX2_unfair 58 = .ok (.invokestatic 104, 3) := by decide +kernel
theorem dX2_unfair_61 : decode cX2_unfair 61 = .ok (.istore_n 2, 1) := by decide +kernel
theorem dX2_unfair_62 : decode cX2_unfair 62 = .ok (.iinc 3 1, 3) := by decide +kernel
theorem dX2_unfair_65 : decode cX2_unfair 65 = .ok (.goto (-41), 3) := by decide +kernel
theorem dX2_unfair_68 : decode cX2_unfair 68 = .ok (.iload_n 1, 1) := by decide +kernel
theorem dX2_unfair_69 : decode cX2_unfair 69 = .ok (.iload_n 2, 1) := by decide +kernel
theorem dX2_unfair_70 : decode cX2_unfair 70 = .ok (.isub, 1) := by decide +kernel
theorem dX2_unfair_71 : decode cX2_unfair 71 = .ok (.ireturn, 1) := by decide +kernel
set_option maxRecDepth 20000 in
theorem ggX2_unfairness_X2_unfair : GoodIn wsX2_unfairness wsX2_unfair := goodIn_r _ [5, 6, 7, 8, 9, 10, 11, 12, 13, 14, 15, 16, 17, 4, 18, 19, 25, 26, 27, 28, 29, 30, 31, 32, 33, 34] (by decide +kernel) (by decide +kernel)
set_option maxRecDepth 20000 in
theorem gX2_unfairness_X2_unfair : GoodIn wsX2_unfairness (wsV RX2 107 RX2 yX2_unfair wsX2_unfair) := goodIn_app (goodIn_of _ (by decide +kernel)) ggX2_unfairness_X2_unfair
set_option maxRecDepth 20000 in
theorem ggX2_unfairness_X2_ok : GoodIn wsX2_unfairness wsX2_ok := goodIn_r _ [23, 24, 25, 26, 27, 28, 29, 30, 31, 32, 33, 34] (by decide +kernel) (by decide +kernel)
set_option maxRecDepth 20000 in
theorem gX2_unfairness_X2_ok : GoodIn wsX2_unfairness (wsV RX2 83 RX2 yX2_ok wsX2_ok) := goodIn_app (goodIn_of _ (by decide +kernel)) ggX2_unfairness_X2_ok
theorem dX2_unfairness_0 : decode cX2_unfairness 0 = .ok (.aload_n 0, 1) := by decide +kernel
theorem dX2_unfairness_1 : decode cX2_unfairness 1 = .ok (.aload_n 0, 1) := by decide +kernel
theorem dX2_unfairness_2 : decode cX2_unfairness 2 = .ok (.invokevirtual 107, 3) := by decide +kernel
theorem dX2_unfairness_5 : decode cX2_unfairness 5 = .ok (.invokevirtual 83, 3) := by decide +kernel
theorem dX2_unfairness_8 : decode cX2_unfairness 8 = .ok (.ireturn, 1) := by decide +kernel
set_option maxRecDepth 20000 in
theorem ggX2_whole_X2_common : GoodIn wsX2_whole wsX2_common := goodIn_r _ [6] (by decide +kernel) (by decide +kernel)
set_option maxRecDepth 20000 in
theorem gX2_whole_X2_common : GoodIn wsX2_whole (va_wsS RX2 110 yX2_common wsX2_common) := goodIn_app (goodIn_of _ (by decide +kernel)) ggX2_whole_X2_common
theorem dX2_whole_0 : decode cX2_whole 0 = .ok (.lconst 1, 1) := by decide +kernel
theorem dX2_whole_1 : decode cX2_whole 1 = .ok (.lstore_n 1, 1) := by decide +kernel
theorem dX2_whole_2 : decode cX2_whole 2 = .ok (.iconst 0, 1) := by decide +kernel
theorem dX2_whole_3 : decode cX2_whole 3 = .ok (.istore_n 3, 1) := by decide +kernel
theorem dX2_whole_4 : decode cX2_whole 4 = .ok (.iload_n 3, 1) := by decide +kernel
theorem dX2_whole_5 : decode cX2_whole 5 = .ok (.aload_n 0, 1) := by decide +kernel
theorem dX2_whole_6 : decode cX2_whole 6 = .ok (.getfield 38, 3) := by decide +kernel
theorem dX2_whole_9 : decode cX2_whole 9 = .ok (.if_icmp .ge 40, 3) := by decide +kernel
theorem dX2_whole_12 : decode cX2_whole 12 = .ok (.lload_n 1, 1) := by decide +kernel
theorem dX2_whole_13 : decode cX2_whole 13 = .ok (.lload_n 1, 1) := by decide +kernel
theorem dX2_whole_14 : decode cX2_whole 14 = .ok (.aload_n 0, 1) := by decide +kernel
theorem dX2_whole_15 : decode cX2_whole 15 = .ok (.getfield 17, 3) := by decide +kernel
theorem dX2_whole_18 : decode cX2_whole 18 = .ok (.iload_n 3, 1) := by decide +kernel
theorem dX2_whole_19 : decode cX2_whole 19 = .ok (.iaload, 1) := by decide +kernel
theorem dX2_whole_20 : decode cX2_whole 20 = .ok (.i2l, 1) := by decide +kernel
theorem dX2_whole_21 : decode cX2_whole 21 = .ok (.lrem, 1) := by decide +kernel
theorem dX2_whole_22 : decode cX2_whole 22 = .ok (.l2i, 1) := by decide +kernel
theorem dX2_whole_23 : decode cX2_whole 23 = .ok (.aload_n 0, 1) := by decide +kernel
theorem dX2_whole_24 : decode cX2_whole 24 = .ok (.getfield 17, 3) := by decide +kernel
theorem dX2_whole_27 : decode cX2_whole 27 = .ok (.iload_n 3, 1) := by decide +kernel
theorem dX2_whole_28 : decode cX2_whole 28 = .ok (.iaload, 1) := by decide +kernel
theorem dX2_whole_29 : decode cX2_whole 29 = .ok (.invokestatic 110, 3) := by decide +kernel
theorem dX2_whole_32 : decode cX2_whole 32 = .ok (.i2l, 1) := by decide +kernel
theorem dX2_whole_33 : decode cX2_whole 33 = .ok (.ldiv, 1) := by decide +kernel
theorem dX2_whole_34 : decode cX2_whole 34 = .ok (.aload_n 0, 1) := by decide +kernel
theorem dX2_whole_35 : decode cX2_whole 35 = .ok (.getfield 17, 3) := by decide +kernel
theorem dX2_whole_38 : decode cX2_whole 38 = .ok (.iload_n 3, 1) := by decide +kernel
theorem dX2_whole_39 : decode cX2_whole 39 = .ok (.iaload, 1) := by decide +kernel
theorem dX2_whole_40 : decode cX2_whole 40 = .ok (.i2l, 1) := by decide +kernel
theorem dX2_whole_41 : decode cX2_whole 41 = .ok (.lmul, 1) := by decide +kernel
theorem dX2_whole_42 : decode cX2_whole 42 = .ok (.lstore_n 1, 1) := by decide +kernel
theorem dX2_whole_43 : decode cX2_whole 43 = .ok (.iinc 3 1, 3) := by decide +kernel
theorem dX2_whole_46 : decode cX2_whole 46 = .ok (.goto (-42), 3) := by decide +kernel
theorem dX2_whole_49 : decode cX2_whole 49 = .ok (.lload_n 1, 1) := by decide +kernel
theorem dX2_whole_50 : decode cX2_whole 50 = .ok (.lreturn, 1) := by decide +kernel
set_option maxRecDepth 20000 in
theorem ggX2_together_X2_whole : GoodIn wsX2_together wsX2_whole := goodIn_r _ [6, 7, 8, 9, 10, 5, 11, 12, 13, 14, 15, 16, 17, 18, 19, 20, 21] (by decide +kernel) (by decide +kernel)
set_option maxRecDepth 20000 in
theorem gX2_together_X2_whole : GoodIn wsX2_together (wsV RX2 113 RX2 yX2_whole wsX2_whole) := goodIn_app (goodIn_of _ (by decide +kernel)) ggX2_together_X2_whole
theorem dX2_together_0 : decode cX2_together 0 = .ok (.aload_n 0, 1) := by decide +kernel
theorem dX2_together_1 : decode cX2_together 1 = .ok (.iconst 0, 1) := by decide +kernel
theorem dX2_together_2 : decode cX2_together 2 = .ok (.putfield 35, 3) := by decide +kernel
theorem dX2_together_5 : decode cX2_together 5 = .ok (.aload_n 0, 1) := by decide +kernel
theorem dX2_together_6 : decode cX2_together 6 = .ok (.invokevirtual 113, 3) := by decide +kernel
theorem dX2_together_9 : decode cX2_together 9 = .ok (.lreturn, 1) := by decide +kernel
set_option maxRecDepth 20000 in
theorem ggX2_divisor_X2_areLamps : GoodIn wsX2_divisor wsX2_areLamps := goodIn_r _ [7, 8, 9, 10, 6, 11, 12, 13, 14, 15, 23, 24, 25, 26, 27, 28, 29, 30, 31, 32] (by decide +kernel) (by decide +kernel)
set_option maxRecDepth 20000 in
theorem gX2_divisor_X2_areLamps : GoodIn wsX2_divisor (wsV RX2 73 RX2 yX2_areLamps wsX2_areLamps) := goodIn_app (goodIn_of _ (by decide +kernel)) ggX2_divisor_X2_areLamps
set_option maxRecDepth 20000 in
theorem ggX2_divisor_X2_common : GoodIn wsX2_divisor wsX2_common := goodIn_r _ [18] (by decide +kernel) (by decide +kernel)
set_option maxRecDepth 20000 in
theorem gX2_divisor_X2_common : GoodIn wsX2_divisor (va_wsS RX2 110 yX2_common wsX2_common) := goodIn_app (goodIn_of _ (by decide +kernel)) ggX2_divisor_X2_common
set_option maxRecDepth 20000 in
theorem ggX2_divisor_X2_no : GoodIn wsX2_divisor wsX2_no := goodIn_r _ [22, 1, 23, 24, 25, 26, 27, 28, 29, 30, 31, 32] (by decide +kernel) (by decide +kernel)
set_option maxRecDepth 20000 in
theorem gX2_divisor_X2_no : GoodIn wsX2_divisor (wsV RX2 69 RX2 yX2_no wsX2_no) := goodIn_app (goodIn_of _ (by decide +kernel)) ggX2_divisor_X2_no
theorem dX2_divisor_0 : decode cX2_divisor 0 = .ok (.aload_n 0, 1) := by decide +kernel
theorem dX2_divisor_1 : decode cX2_divisor 1 = .ok (.iconst 0, 1) := by decide +kernel
theorem dX2_divisor_2 : decode cX2_divisor 2 = .ok (.putfield 35, 3) := by decide +kernel
theorem dX2_divisor_5 : decode cX2_divisor 5 = .ok (.aload_n 0, 1) := by decide +kernel
theorem dX2_divisor_6 : decode cX2_divisor 6 = .ok (.iload_n 1, 1) := by decide +kernel
theorem dX2_divisor_7 : decode cX2_divisor 7 = .ok (.iload_n 2, 1) := by decide +kernel
theorem dX2_divisor_8 : decode cX2_divisor 8 = .ok (.invokevirtual 73, 3) := by decide +kernel
theorem dX2_divisor_11 : decode cX2_divisor 11 = .ok (.ifCond .eq 21, 3) := by decide +kernel
theorem dX2_divisor_14 : decode cX2_divisor 14 = .ok (.aload_n 0, 1) := by decide +kernel
theorem dX2_divisor_15 : decode cX2_divisor 15 = .ok (.getfield 17, 3) := by decide +kernel
theorem dX2_divisor_18 : decode cX2_divisor 18 = .ok (.iload_n 1, 1) := by decide +kernel
theorem dX2_divisor_19 : decode cX2_divisor 19 = .ok (.iaload, 1) := by decide +kernel
theorem dX2_divisor_20 : decode cX2_divisor 20 = .ok (.aload_n 0, 1) := by decide +kernel
theorem dX2_divisor_21 : decode cX2_divisor 21 = .ok (.getfield 17, 3) := by decide +kernel
theorem dX2_divisor_24 : decode cX2_divisor 24 = .ok (.iload_n 2, 1) := by decide +kernel
theorem dX2_divisor_25 : decode cX2_divisor 25 = .ok (.iaload, 1) := by decide +kernel
theorem dX2_divisor_26 : decode cX2_divisor 26 = .ok (.invokestatic 110, 3) := by decide +kernel
theorem dX2_divisor_29 : decode cX2_divisor 29 = .ok (.goto 8, 3) := by decide +kernel
theorem dX2_divisor_32 : decode cX2_divisor 32 = .ok (.aload_n 0, 1) := by decide +kernel
theorem dX2_divisor_33 : decode cX2_divisor 33 = .ok (.iconst 1, 1) := by decide +kernel
theorem dX2_divisor_34 : decode cX2_divisor 34 = .ok (.invokevirtual 69, 3) := by decide +kernel
theorem dX2_divisor_37 : decode cX2_divisor 37 = .ok (.ireturn, 1) := by decide +kernel
set_option maxRecDepth 20000 in
theorem ggX2_comeTogether_X2_common : GoodIn wsX2_comeTogether wsX2_common := goodIn_r _ [6] (by decide +kernel) (by decide +kernel)
set_option maxRecDepth 20000 in
theorem gX2_comeTogether_X2_common : GoodIn wsX2_comeTogether (va_wsS RX2 110 yX2_common wsX2_common) := goodIn_app (goodIn_of _ (by decide +kernel)) ggX2_comeTogether_X2_common
theorem dX2_comeTogether_0 : decode cX2_comeTogether 0 = .ok (.iload_n 2, 1) := by decide +kernel
theorem dX2_comeTogether_1 : decode cX2_comeTogether 1 = .ok (.aload_n 0, 1) := by decide +kernel
theorem dX2_comeTogether_2 : decode cX2_comeTogether 2 = .ok (.getfield 20, 3) := by decide +kernel
theorem dX2_comeTogether_5 : decode cX2_comeTogether 5 = .ok (.iload_n 3, 1) := by decide +kernel
theorem dX2_comeTogether_6 : decode cX2_comeTogether 6 = .ok (.iaload, 1) := by decide +kernel
theorem dX2_comeTogether_7 : decode cX2_comeTogether 7 = .ok (.isub, 1) := by decide +kernel
theorem dX2_comeTogether_8 : decode cX2_comeTogether 8 = .ok (.aload_n 0, 1) := by decide +kernel
theorem dX2_comeTogether_9 : decode cX2_comeTogether 9 = .ok (.getfield 17, 3) := by decide +kernel
theorem dX2_comeTogether_12 : decode cX2_comeTogether 12 = .ok (.iload_n 1, 1) := by decide +kernel
theorem dX2_comeTogether_13 : decode cX2_comeTogether 13 = .ok (.iaload, 1) := by decide +kernel
theorem dX2_comeTogether_14 : decode cX2_comeTogether 14 = .ok (.aload_n 0, 1) := by decide +kernel
theorem dX2_comeTogether_15 : decode cX2_comeTogether 15 = .ok (.getfield 17, 3) := by decide +kernel
theorem dX2_comeTogether_18 : decode cX2_comeTogether 18 = .ok (.iload_n 3, 1) := by decide +kernel
theorem dX2_comeTogether_19 : decode cX2_comeTogether 19 = .ok (.iaload, 1) := by decide +kernel
theorem dX2_comeTogether_20 : decode cX2_comeTogether 20 = .ok (.invokestatic 110, 3) := by decide +kernel
theorem dX2_comeTogether_23 : decode cX2_comeTogether 23 = .ok (.irem, 1) := by decide +kernel
theorem dX2_comeTogether_24 : decode cX2_comeTogether 24 = .ok (.ifCond .ne 7, 3) := by decide +kernel
theorem dX2_comeTogether_27 : decode cX2_comeTogether 27 = .ok (.iconst 1, 1) := by decide +kernel
theorem dX2_comeTogether_28 : decode cX2_comeTogether 28 = .ok (.goto 4, 3) := by decide +kernel
theorem dX2_comeTogether_31 : decode cX2_comeTogether 31 = .ok (.iconst 0, 1) := by decide +kernel
theorem dX2_comeTogether_32 : decode cX2_comeTogether 32 = .ok (.ireturn, 1) := by decide +kernel
set_option maxRecDepth 20000 in
theorem ggX2_meet_X2_areLamps : GoodIn wsX2_meet wsX2_areLamps := goodIn_r _ [7, 8, 9, 10, 6, 11, 12, 13, 14, 15, 28, 29, 30, 31, 32, 33, 34, 35, 36, 37] (by decide +kernel) (by decide +kernel)
set_option maxRecDepth 20000 in
theorem gX2_meet_X2_areLamps : GoodIn wsX2_meet (wsV RX2 73 RX2 yX2_areLamps wsX2_areLamps) := goodIn_app (goodIn_of _ (by decide +kernel)) ggX2_meet_X2_areLamps
set_option maxRecDepth 20000 in
theorem ggX2_meet_X2_comeTogether : GoodIn wsX2_meet wsX2_comeTogether := goodIn_r _ [19, 2, 20, 21, 22, 6, 23, 28, 29, 30, 31, 32, 33, 34, 35, 36, 37] (by decide +kernel) (by decide +kernel)
set_option maxRecDepth 20000 in
theorem gX2_meet_X2_comeTogether : GoodIn wsX2_meet (wsV RX2 117 RX2 yX2_comeTogether wsX2_comeTogether) := goodIn_app (goodIn_of _ (by decide +kernel)) ggX2_meet_X2_comeTogether
set_option maxRecDepth 20000 in
theorem ggX2_meet_X2_isNot : GoodIn wsX2_meet wsX2_isNot := goodIn_r _ [27, 1, 28, 29, 30, 31, 32, 33, 34, 35, 36, 37] (by decide +kernel) (by decide +kernel)
set_option maxRecDepth 20000 in
theorem gX2_meet_X2_isNot : GoodIn wsX2_meet (wsV RX2 77 RX2 yX2_isNot wsX2_isNot) := goodIn_app (goodIn_of _ (by decide +kernel)) ggX2_meet_X2_isNot
theorem dX2_meet_0 : decode cX2_meet 0 = .ok (.aload_n 0, 1) := by decide +kernel
theorem dX2_meet_1 : decode cX2_meet 1 = .ok (.iconst 0, 1) := by decide +kernel
theorem dX2_meet_2 : decode cX2_meet 2 = .ok (.putfield 35, 3) := by decide +kernel
theorem dX2_meet_5 : decode cX2_meet 5 = .ok (.aload_n 0, 1) := by decide +kernel
theorem dX2_meet_6 : decode cX2_meet 6 = .ok (.iload_n 1, 1) := by decide +kernel
theorem dX2_meet_7 : decode cX2_meet 7 = .ok (.iload_n 2, 1) := by decide +kernel
theorem dX2_meet_8 : decode cX2_meet 8 = .ok (.invokevirtual 73, 3) := by decide +kernel
theorem dX2_meet_11 : decode cX2_meet 11 = .ok (.ifCond .eq 18, 3) := by decide +kernel
theorem dX2_meet_14 : decode cX2_meet 14 = .ok (.aload_n 0, 1) := by decide +kernel
theorem dX2_meet_15 : decode cX2_meet 15 = .ok (.iload_n 1, 1) := by decide +kernel
theorem dX2_meet_16 : decode cX2_meet 16 = .ok (.aload_n 0, 1) := by decide +kernel
theorem dX2_meet_17 : decode cX2_meet 17 = .ok (.getfield 20, 3) := by decide +kernel
theorem dX2_meet_20 : decode cX2_meet 20 = .ok (.iload_n 1, 1) := by decide +kernel
theorem dX2_meet_21 : decode cX2_meet 21 = .ok (.iaload, 1) := by decide +kernel
theorem dX2_meet_22 : decode cX2_meet 22 = .ok (.iload_n 2, 1) := by decide +kernel
theorem dX2_meet_23 : decode cX2_meet 23 = .ok (.invokevirtual 117, 3) := by decide +kernel
theorem dX2_meet_26 : decode cX2_meet 26 = .ok (.goto 8, 3) := by decide +kernel
theorem dX2_meet_29 : decode cX2_meet 29 = .ok (.aload_n 0, 1) := by decide +kernel
theorem dX2_meet_30 : decode cX2_meet 30 = .ok (.iconst 1, 1) := by decide +kernel
theorem dX2_meet_31 : decode cX2_meet 31 = .ok (.invokevirtual 77, 3) := by decide +kernel
theorem dX2_meet_34 : decode cX2_meet 34 = .ok (.ireturn, 1) := by decide +kernel
set_option maxRecDepth 20000 in
theorem ggX2_until_X2_comeTogether : GoodIn wsX2_until wsX2_comeTogether := goodIn_r _ [7, 1, 2, 8, 9, 6, 10, 16, 17, 18, 19, 20, 21, 22, 23, 24, 25] (by decide +kernel) (by decide +kernel)
set_option maxRecDepth 20000 in
theorem gX2_until_X2_comeTogether : GoodIn wsX2_until (wsV RX2 117 RX2 yX2_comeTogether wsX2_comeTogether) := goodIn_app (goodIn_of _ (by decide +kernel)) ggX2_until_X2_comeTogether
set_option maxRecDepth 20000 in
theorem ggX2_until_X2_phaseIn : GoodIn wsX2_until wsX2_phaseIn := goodIn_r _ [14, 15, 1, 2, 16, 17, 18, 19, 20, 21, 22, 23, 24, 25] (by decide +kernel) (by decide +kernel)
set_option maxRecDepth 20000 in
theorem gX2_until_X2_phaseIn : GoodIn wsX2_until (wsV RX2 49 RX2 yX2_phaseIn wsX2_phaseIn) := goodIn_app (goodIn_of _ (by decide +kernel)) ggX2_until_X2_phaseIn
theorem dX2_until_0 : decode cX2_until 0 = .ok (.aload_n 0, 1) := by decide +kernel
theorem dX2_until_1 : decode cX2_until 1 = .ok (.iload_n 1, 1) := by decide +kernel
theorem dX2_until_2 : decode cX2_until 2 = .ok (.aload_n 0, 1) := by decide +kernel
theorem dX2_until_3 : decode cX2_until 3 = .ok (.getfield 20, 3) := by decide +kernel
theorem dX2_until_6 : decode cX2_until 6 = .ok (.iload_n 1, 1) := by decide +kernel
theorem dX2_until_7 : decode cX2_until 7 = .ok (.iaload, 1) := by decide +kernel
theorem dX2_until_8 : decode cX2_until 8 = .ok (.iload_n 2, 1) := by decide +kernel
theorem dX2_until_9 : decode cX2_until 9 = .ok (.invokevirtual 117, 3) := by decide +kernel
theorem dX2_until_12 : decode cX2_until 12 = .ok (.ifCond .ne 5, 3) := by decide +kernel
theorem dX2_until_15 : decode cX2_until 15 = .ok (.iconst (-1), 1) := by decide +kernel
theorem dX2_until_16 : decode cX2_until 16 = .ok (.ireturn, 1) := by decide +kernel
theorem dX2_until_17 : decode cX2_until 17 = .ok (.aload_n 0, 1) := by decide +kernel
theorem dX2_until_18 : decode cX2_until 18 = .ok (.getfield 17, 3) := by decide +kernel
theorem dX2_until_21 : decode cX2_until 21 = .ok (.iload_n 1, 1) := by decide +kernel
theorem dX2_until_22 : decode cX2_until 22 = .ok (.iaload, 1) := by decide +kernel
theorem dX2_until_23 : decode cX2_until 23 = .ok (.aload_n 0, 1) := by decide +kernel
theorem dX2_until_24 : decode cX2_until 24 = .ok (.iload_n 1, 1) := by decide +kernel
theorem dX2_until_25 : decode cX2_until 25 = .ok (.iconst 0, 1) := by decide +kernel
theorem dX2_until_26 : decode cX2_until 26 = .ok (.invokevirtual 49, 3) := by decide +kernel
theorem dX2_until_29 : decode cX2_until 29 = .ok (.isub, 1) := by decide +kernel
theorem dX2_until_30 : decode cX2_until 30 = .ok (.aload_n 0, 1) := by decide +kernel
theorem dX2_until_31 : decode cX2_until 31 = .ok (.getfield 17, 3) := by decide +kernel
theorem dX2_until_34 : decode cX2_until 34 = .ok (.iload_n 1, 1) := by decide +kernel
theorem dX2_until_35 : decode cX2_until 35 = .ok (.iaload, 1) := by decide +kernel
theorem dX2_until_36 : decode cX2_until 36 = .ok (.irem, 1) := by decide +kernel
theorem dX2_until_37 : decode cX2_until 37 = .ok (.istore_n 3, 1) := by decide +kernel
theorem dX2_until_38 : decode cX2_until 38 = .ok (.aload_n 0, 1) := by decide +kernel
theorem dX2_until_39 : decode cX2_until 39 = .ok (.iload_n 2, 1) := by decide +kernel
theorem dX2_until_40 : decode cX2_until 40 = .ok (.iload_n 3, 1) := by decide +kernel
theorem dX2_until_41 : decode cX2_until 41 = .ok (.invokevirtual 49, 3) := by decide +kernel
theorem dX2_until_44 : decode cX2_until 44 = .ok (.ifCond .eq 15, 3) := by decide +kernel
theorem dX2_until_47 : decode cX2_until 47 = .ok (.iload_n 3, 1) := by decide +kernel
theorem dX2_until_48 : decode cX2_until 48 = .ok (.aload_n 0, 1) := by decide +kernel
theorem dX2_until_49 : decode cX2_until 49 = .ok (.getfield 17, 3) := by decide +kernel
theorem dX2_until_52 : decode cX2_until 52 = .ok (.iload_n 1, 1) := by decide +kernel
theorem dX2_until_53 : decode cX2_until 53 = .ok (.iaload, 1) := by decide +kernel
theorem dX2_until_54 : decode cX2_until 54 = .ok (.iadd, 1) := by decide +kernel
theorem dX2_until_55 : decode cX2_until 55 = .ok (.istore_n 3, 1) := by decide +kernel
theorem dX2_until_56 : decode cX2_until 56 = .ok (.goto (-18), 3) := by decide +kernel
theorem dX2_until_59 : decode cX2_until 59 = .ok (.iload_n 3, 1) := by decide +kernel
theorem dX2_until_60 : decode cX2_until 60 = .ok (.ireturn, 1) := by decide +kernel
set_option maxRecDepth 20000 in
theorem ggX2_beatsUntilMeet_X2_areLamps : GoodIn wsX2_beatsUntilMeet wsX2_areLamps := goodIn_r _ [6, 7, 8, 9, 5, 10, 11, 12, 13, 14, 37, 38, 39, 40, 41, 42, 43, 44, 45, 46] (by decide +kernel) (by decide +kernel)
set_option maxRecDepth 20000 in
theorem gX2_beatsUntilMeet_X2_areLamps : GoodIn wsX2_beatsUntilMeet (wsV RX2 73 RX2 yX2_areLamps wsX2_areLamps) := goodIn_app (goodIn_of _ (by decide +kernel)) ggX2_beatsUntilMeet_X2_areLamps
set_option maxRecDepth 20000 in
theorem ggX2_beatsUntilMeet_X2_until : GoodIn wsX2_beatsUntilMeet wsX2_until := goodIn_r _ [18, 19, 20, 21, 22, 23, 5, 24, 25, 26, 27, 28, 29, 30, 31, 32, 37, 38, 39, 40, 41, 42, 43, 44, 45, 46] (by decide +kernel) (by decide +kernel)
set_option maxRecDepth 20000 in
theorem gX2_beatsUntilMeet_X2_until : GoodIn wsX2_beatsUntilMeet (wsV RX2 120 RX2 yX2_until wsX2_until) := goodIn_app (goodIn_of _ (by decide +kernel)) ggX2_beatsUntilMeet_X2_until
set_option maxRecDepth 20000 in
theorem ggX2_beatsUntilMeet_X2_no : GoodIn wsX2_beatsUntilMeet wsX2_no := goodIn_r _ [36, 1, 37, 38, 39, 40, 41, 42, 43, 44, 45, 46] (by decide +kernel) (by decide +kernel)
set_option maxRecDepth 20000 in
theorem gX2_beatsUntilMeet_X2_no : GoodIn wsX2_beatsUntilMeet (wsV RX2 69 RX2 yX2_no wsX2_no) := goodIn_app (goodIn_of _ (by decide +kernel)) ggX2_beatsUntilMeet_X2_no
theorem dX2_beatsUntilMeet_0 : decode cX2_beatsUntilMeet 0 = .ok (.aload_n 0, 1) := by decide +kernel
theorem dX2_beatsUntilMeet_1 : decode cX2_beatsUntilMeet 1 = .ok (.iconst 0, 1) := by decide +kernel
theorem dX2_beatsUntilMeet_2 : decode cX2_beatsUntilMeet 2 = .ok (.putfield 35, 3) := by decide +kernel
theorem dX2_beatsUntilMeet_5 : decode cX2_beatsUntilMeet 5 = .ok (.aload_n 0, 1) := by decide +kernel
theorem dX2_beatsUntilMeet_6 : decode cX2_beatsUntilMeet 6 = .ok (.iload_n 1, 1) := by decide +kernel
theorem dX2_beatsUntilMeet_7 : decode cX2_beatsUntilMeet 7 = .ok (.iload_n 2, 1) := by decide +kernel
theorem dX2_beatsUntilMeet_8 : decode cX2_beatsUntilMeet 8 = .ok (.invokevirtual 73, 3) := by decide +kernel
theorem dX2_beatsUntilMeet_11 : decode cX2_beatsUntilMeet 11 = .ok (.ifCond .eq 12, 3) := by decide +kernel
theorem dX2_beatsUntilMeet_14 : decode cX2_beatsUntilMeet 14 = .ok (.aload_n 0, 1) := by decide +kernel
theorem dX2_beatsUntilMeet_15 : decode cX2_beatsUntilMeet 15 = .ok (.iload_n 1, 1) := by decide +kernel
theorem dX2_beatsUntilMeet_16 : decode cX2_beatsUntilMeet 16 = .ok (.iload_n 2, 1) := by decide +kernel
theorem dX2_beatsUntilMeet_17 : decode cX2_beatsUntilMeet 17 = .ok (.invokevirtual 120, 3) := by decide +kernel
theorem dX2_beatsUntilMeet_20 : decode cX2_beatsUntilMeet 20 = .ok (.goto 8, 3) := by decide +kernel
theorem dX2_beatsUntilMeet_23 : decode cX2_beatsUntilMeet 23 = .ok (.aload_n 0, 1) := by decide +kernel
theorem dX2_beatsUntilMeet_24 : decode cX2_beatsUntilMeet 24 = .ok (.iconst 1, 1) := by decide +kernel
theorem dX2_beatsUntilMeet_25 : decode cX2_beatsUntilMeet 25 = .ok (.invokevirtual 69, 3) := by decide +kernel
theorem dX2_beatsUntilMeet_28 : decode cX2_beatsUntilMeet 28 = .ok (.ireturn, 1) := by decide +kernel
set_option maxRecDepth 20000 in
theorem ggX2_met_X2_comeTogether : GoodIn wsX2_met wsX2_comeTogether := goodIn_r _ [6, 7, 8, 9, 10, 5, 11, 12, 13, 14, 15, 16, 17, 18, 19, 20, 21] (by decide +kernel) (by decide +kernel)
set_option maxRecDepth 20000 in
theorem gX2_met_X2_comeTogether : GoodIn wsX2_met (wsV RX2 117 RX2 yX2_comeTogether wsX2_comeTogether) := goodIn_app (goodIn_of _ (by decide +kernel)) ggX2_met_X2_comeTogether
theorem dX2_met_0 : decode cX2_met 0 = .ok (.iconst 0, 1) := by decide +kernel
theorem dX2_met_1 : decode cX2_met 1 = .ok (.istore_n 3, 1) := by decide +kernel
theorem dX2_met_2 : decode cX2_met 2 = .ok (.iconst 0, 1) := by decide +kernel
theorem dX2_met_3 : decode cX2_met 3 = .ok (.istore 4, 2) := by decide +kernel
theorem dX2_met_5 : decode cX2_met 5 = .ok (.iload 4, 2) := by decide +kernel
theorem dX2_met_7 : decode cX2_met 7 = .ok (.aload_n 0, 1) := by decide +kernel
theorem dX2_met_8 : decode cX2_met 8 = .ok (.getfield 38, 3) := by decide +kernel
theorem dX2_met_11 : decode cX2_met 11 = .ok (.if_icmp .ge 34, 3) := by decide +kernel
theorem dX2_met_14 : decode cX2_met 14 = .ok (.iload_n 3, 1) := by decide +kernel
theorem dX2_met_15 : decode cX2_met 15 = .ok (.iload 4, 2) := by decide +kernel
theorem dX2_met_17 : decode cX2_met 17 = .ok (.iload_n 1, 1) := by decide +kernel
theorem dX2_met_18 : decode cX2_met 18 = .ok (.if_icmp .eq 18, 3) := by decide +kernel
theorem dX2_met_21 : decode cX2_met 21 = .ok (.aload_n 0, 1) := by decide +kernel
theorem dX2_met_22 : decode cX2_met 22 = .ok (.iload_n 1, 1) := by decide +kernel
theorem dX2_met_23 : decode cX2_met 23 = .ok (.iload_n 2, 1) := by decide +kernel
theorem dX2_met_24 : decode cX2_met 24 = .ok (.iload 4, 2) := by decide +kernel
theorem dX2_met_26 : decode cX2_met 26 = .ok (.invokevirtual 117, 3) := by decide +kernel
theorem dX2_met_29 : decode cX2_met 29 = .ok (.ifCond .eq 7, 3) := by decide +kernel
theorem dX2_met_32 : decode cX2_met 32 = .ok (.iconst 1, 1) := by decide +kernel
theorem dX2_met_33 : decode cX2_met 33 = .ok (.goto 4, 3) := by decide +kernel
theorem dX2_met_36 : decode cX2_met 36 = .ok (.iconst 0, 1) := by decide +kernel
theorem dX2_met_37 : decode cX2_met 37 = .ok (.iadd, 1) := by decide +kernel
theorem dX2_met_38 : decode cX2_met 38 = .ok (.istore_n 3, 1) := by decide +kernel
theorem dX2_met_39 : decode cX2_met 39 = .ok (.iinc 4 1, 3) := by decide +kernel
theorem dX2_met_42 : decode cX2_met 42 = .ok (.goto (-37), 3) := by decide +kernel
theorem dX2_met_45 : decode cX2_met 45 = .ok (.iload_n 3, 1) := by decide +kernel
theorem dX2_met_46 : decode cX2_met 46 = .ok (.ireturn, 1) := by decide +kernel
set_option maxRecDepth 20000 in
theorem ggX2_meets_X2_isLamp : GoodIn wsX2_meets wsX2_isLamp := goodIn_r _ [7, 8, 9, 10, 6, 11, 28, 29, 30, 31, 32, 33, 34, 35, 36, 37] (by decide +kernel) (by decide +kernel)
set_option maxRecDepth 20000 in
theorem gX2_meets_X2_isLamp : GoodIn wsX2_meets (wsV RX2 45 RX2 yX2_isLamp wsX2_isLamp) := goodIn_app (goodIn_of _ (by decide +kernel)) ggX2_meets_X2_isLamp
set_option maxRecDepth 20000 in
theorem ggX2_meets_X2_met : GoodIn wsX2_meets wsX2_met := goodIn_r _ [15, 8, 16, 17, 18, 6, 19, 2, 20, 21, 22, 23, 28, 29, 30, 31, 32, 33, 34, 35, 36, 37] (by decide +kernel) (by decide +kernel)
set_option maxRecDepth 20000 in
theorem gX2_meets_X2_met : GoodIn wsX2_meets (wsV RX2 123 RX2 yX2_met wsX2_met) := goodIn_app (goodIn_of _ (by decide +kernel)) ggX2_meets_X2_met
set_option maxRecDepth 20000 in
theorem ggX2_meets_X2_no : GoodIn wsX2_meets wsX2_no := goodIn_r _ [27, 1, 28, 29, 30, 31, 32, 33, 34, 35, 36, 37] (by decide +kernel) (by decide +kernel)
set_option maxRecDepth 20000 in
theorem gX2_meets_X2_no : GoodIn wsX2_meets (wsV RX2 69 RX2 yX2_no wsX2_no) := goodIn_app (goodIn_of _ (by decide +kernel)) ggX2_meets_X2_no
theorem dX2_meets_0 : decode cX2_meets 0 = .ok (.aload_n 0, 1) := by decide +kernel
theorem dX2_meets_1 : decode cX2_meets 1 = .ok (.iconst 0, 1) := by decide +kernel
theorem dX2_meets_2 : decode cX2_meets 2 = .ok (.putfield 35, 3) := by decide +kernel
theorem dX2_meets_5 : decode cX2_meets 5 = .ok (.aload_n 0, 1) := by decide +kernel
theorem dX2_meets_6 : decode cX2_meets 6 = .ok (.iload_n 1, 1) := by decide +kernel
theorem dX2_meets_7 : decode cX2_meets 7 = .ok (.invokevirtual 45, 3) := by decide +kernel
theorem dX2_meets_10 : decode cX2_meets 10 = .ok (.ifCond .eq 17, 3) := by decide +kernel
theorem dX2_meets_13 : decode cX2_meets 13 = .ok (.aload_n 0, 1) := by decide +kernel
theorem dX2_meets_14 : decode cX2_meets 14 = .ok (.iload_n 1, 1) := by decide +kernel
theorem dX2_meets_15 : decode cX2_meets 15 = .ok (.aload_n 0, 1) := by decide +kernel
theorem dX2_meets_16 : decode cX2_meets 16 = .ok (.getfield 20, 3) := by decide +kernel
theorem dX2_meets_19 : decode cX2_meets 19 = .ok (.iload_n 1, 1) := by decide +kernel
theorem dX2_meets_20 : decode cX2_meets 20 = .ok (.iaload, 1) := by decide +kernel
theorem dX2_meets_21 : decode cX2_meets 21 = .ok (.invokevirtual 123, 3) := by decide +kernel
theorem dX2_meets_24 : decode cX2_meets 24 = .ok (.goto 8, 3) := by decide +kernel
theorem dX2_meets_27 : decode cX2_meets 27 = .ok (.aload_n 0, 1) := by decide +kernel
theorem dX2_meets_28 : decode cX2_meets 28 = .ok (.iconst 1, 1) := by decide +kernel
theorem dX2_meets_29 : decode cX2_meets 29 = .ok (.invokevirtual 69, 3) := by decide +kernel
theorem dX2_meets_32 : decode cX2_meets 32 = .ok (.ireturn, 1) := by decide +kernel
set_option maxRecDepth 20000 in
theorem ggX2_strangers_X2_met : GoodIn wsX2_strangers wsX2_met := goodIn_r _ [7, 1, 8, 9, 10, 6, 11, 2, 12, 13, 14, 15, 16, 17, 18, 19, 20, 21, 22, 23, 24, 25] (by decide +kernel) (by decide +kernel)
set_option maxRecDepth 20000 in
theorem gX2_strangers_X2_met : GoodIn wsX2_strangers (wsV RX2 123 RX2 yX2_met wsX2_met) := goodIn_app (goodIn_of _ (by decide +kernel)) ggX2_strangers_X2_met
theorem dX2_strangers_0 : decode cX2_strangers 0 = .ok (.iconst 0, 1) := by decide +kernel
theorem dX2_strangers_1 : decode cX2_strangers 1 = .ok (.istore_n 1, 1) := by decide +kernel
theorem dX2_strangers_2 : decode cX2_strangers 2 = .ok (.iconst 0, 1) := by decide +kernel
theorem dX2_strangers_3 : decode cX2_strangers 3 = .ok (.istore_n 2, 1) := by decide +kernel
theorem dX2_strangers_4 : decode cX2_strangers 4 = .ok (.iload_n 2, 1) := by decide +kernel
theorem dX2_strangers_5 : decode cX2_strangers 5 = .ok (.aload_n 0, 1) := by decide +kernel
theorem dX2_strangers_6 : decode cX2_strangers 6 = .ok (.getfield 38, 3) := by decide +kernel
theorem dX2_strangers_9 : decode cX2_strangers 9 = .ok (.if_icmp .ge 30, 3) := by decide +kernel
theorem dX2_strangers_12 : decode cX2_strangers 12 = .ok (.iload_n 1, 1) := by decide +kernel
theorem dX2_strangers_13 : decode cX2_strangers 13 = .ok (.aload_n 0, 1) := by decide +kernel
theorem dX2_strangers_14 : decode cX2_strangers 14 = .ok (.getfield 38, 3) := by decide +kernel
theorem dX2_strangers_17 : decode cX2_strangers 17 = .ok (.iconst 1, 1) := by decide +kernel
theorem dX2_strangers_18 : decode cX2_strangers 18 = .ok (.isub, 1) := by decide +kernel
theorem dX2_strangers_19 : decode cX2_strangers 19 = .ok (.aload_n 0, 1) := by decide +kernel
theorem dX2_strangers_20 : decode cX2_strangers 20 = .ok (.iload_n 2, 1) := by decide +kernel
theorem dX2_strangers_21 : decode cX2_strangers 21 = .ok (.aload_n 0, 1) := by decide +kernel
theorem dX2_strangers_22 : decode cX2_strangers 22 = .ok (.getfield 20, 3) := by decide +kernel
theorem dX2_strangers_25 : decode cX2_strangers 25 = .ok (.iload_n 2, 1) := by decide +kernel
theorem dX2_strangers_26 : decode cX2_strangers 26 = .ok (.iaload, 1) := by decide +kernel
theorem dX2_strangers_27 : decode cX2_strangers 27 = .ok (.invokevirtual 123, 3) := by decide +kernel
theorem dX2_strangers_30 : decode cX2_strangers 30 = .ok (.isub, 1) := by decide +kernel
theorem dX2_strangers_31 : decode cX2_strangers 31 = .ok (.iadd, 1) := by decide +kernel
theorem dX2_strangers_32 : decode cX2_strangers 32 = .ok (.istore_n 1, 1) := by decide +kernel
theorem dX2_strangers_33 : decode cX2_strangers 33 = .ok (.iinc 2 1, 3) := by decide +kernel
theorem dX2_strangers_36 : decode cX2_strangers 36 = .ok (.goto (-32), 3) := by decide +kernel
theorem dX2_strangers_39 : decode cX2_strangers 39 = .ok (.iload_n 1, 1) := by decide +kernel
theorem dX2_strangers_40 : decode cX2_strangers 40 = .ok (.iconst 2, 1) := by decide +kernel
theorem dX2_strangers_41 : decode cX2_strangers 41 = .ok (.idiv, 1) := by decide +kernel
theorem dX2_strangers_42 : decode cX2_strangers 42 = .ok (.ireturn, 1) := by decide +kernel
set_option maxRecDepth 20000 in
theorem ggX2_apart_X2_strangers : GoodIn wsX2_apart wsX2_strangers := goodIn_r _ [5, 6, 7, 8, 9, 10, 4, 11, 12, 13, 14, 15, 16, 17, 18, 19, 25, 26, 27, 28, 29, 30, 31, 32, 33, 34] (by decide +kernel) (by decide +kernel)
set_option maxRecDepth 20000 in
theorem gX2_apart_X2_strangers : GoodIn wsX2_apart (wsV RX2 126 RX2 yX2_strangers wsX2_strangers) := goodIn_app (goodIn_of _ (by decide +kernel)) ggX2_apart_X2_strangers
set_option maxRecDepth 20000 in
theorem ggX2_apart_X2_ok : GoodIn wsX2_apart wsX2_ok := goodIn_r _ [23, 24, 25, 26, 27, 28, 29, 30, 31, 32, 33, 34] (by decide +kernel) (by decide +kernel)
set_option maxRecDepth 20000 in
theorem gX2_apart_X2_ok : GoodIn wsX2_apart (wsV RX2 83 RX2 yX2_ok wsX2_ok) := goodIn_app (goodIn_of _ (by decide +kernel)) ggX2_apart_X2_ok
theorem dX2_apart_0 : decode cX2_apart 0 = .ok (.aload_n 0, 1) := by decide +kernel
theorem dX2_apart_1 : decode cX2_apart 1 = .ok (.aload_n 0, 1) := by decide +kernel
theorem dX2_apart_2 : decode cX2_apart 2 = .ok (.invokevirtual 126, 3) := by decide +kernel
theorem dX2_apart_5 : decode cX2_apart 5 = .ok (.invokevirtual 83, 3) := by decide +kernel
theorem dX2_apart_8 : decode cX2_apart 8 = .ok (.ireturn, 1) := by decide +kernel
set_option maxRecDepth 20000 in
theorem ggX2_shiftFor_X2_met : GoodIn wsX2_shiftFor wsX2_met := goodIn_r _ [6, 7, 8, 9, 10, 5, 11, 12, 1, 13, 14, 15, 16, 17, 18, 19, 20, 21, 22, 23, 24, 25] (by decide +kernel) (by decide +kernel)
set_option maxRecDepth 20000 in
theorem gX2_shiftFor_X2_met : GoodIn wsX2_shiftFor (wsV RX2 123 RX2 yX2_met wsX2_met) := goodIn_app (goodIn_of _ (by decide +kernel)) ggX2_shiftFor_X2_met
theorem dX2_shiftFor_0 : decode cX2_shiftFor 0 = .ok (.iconst 0, 1) := by decide +kernel
theorem dX2_shiftFor_1 : decode cX2_shiftFor 1 = .ok (.istore_n 2, 1) := by decide +kernel
theorem dX2_shiftFor_2 : decode cX2_shiftFor 2 = .ok (.iconst 1, 1) := by decide +kernel
theorem dX2_shiftFor_3 : decode cX2_shiftFor 3 = .ok (.istore_n 3, 1) := by decide +kernel
theorem dX2_shiftFor_4 : decode cX2_shiftFor 4 = .ok (.iload_n 3, 1) := by decide +kernel
theorem dX2_shiftFor_5 : decode cX2_shiftFor 5 = .ok (.aload_n 0, 1) := by decide +kernel
theorem dX2_shiftFor_6 : decode cX2_shiftFor 6 = .ok (.getfield 17, 3) := by decide +kernel
theorem dX2_shiftFor_9 : decode cX2_shiftFor 9 = .ok (.iload_n 1, 1) := by decide +kernel
theorem dX2_shiftFor_10 : decode cX2_shiftFor 10 = .ok (.iaload, 1) := by decide +kernel
theorem dX2_shiftFor_11 : decode cX2_shiftFor 11 = .ok (.if_icmp .ge 26, 3) := by decide +kernel
theorem dX2_shiftFor_14 : decode cX2_shiftFor 14 = .ok (.aload_n 0, 1) := by decide +kernel
theorem dX2_shiftFor_15 : decode cX2_shiftFor 15 = .ok (.iload_n 1, 1) := by decide +kernel
theorem dX2_shiftFor_16 : decode cX2_shiftFor 16 = .ok (.iload_n 3, 1) := by decide +kernel
theorem dX2_shiftFor_17 : decode cX2_shiftFor 17 = .ok (.invokevirtual 123, 3) := by decide +kernel
theorem dX2_shiftFor_20 : decode cX2_shiftFor 20 = .ok (.aload_n 0, 1) := by decide +kernel
theorem dX2_shiftFor_21 : decode cX2_shiftFor 21 = .ok (.iload_n 1, 1) := by decide +kernel
theorem dX2_shiftFor_22 : decode cX2_shiftFor 22 = .ok (.iload_n 2, 1) := by decide +kernel
theorem dX2_shiftFor_23 : decode cX2_shiftFor 23 = .ok (.invokevirtual 123, 3) := by decide +kernel
theorem dX2_shiftFor_26 : decode cX2_shiftFor 26 = .ok (.if_icmp .ge 5, 3) := by decide +kernel
theorem dX2_shiftFor_29 : decode cX2_shiftFor 29 = .ok (.iload_n 3, 1) := by decide +kernel
theorem dX2_shiftFor_30 : decode cX2_shiftFor 30 = .ok (.istore_n 2, 1) := by decide +kernel
theorem dX2_shiftFor_31 : decode cX2_shiftFor 31 = .ok (.iinc 3 1, 3) := by decide +kernel
theorem dX2_shiftFor_34 : decode cX2_shiftFor 34 = .ok (.goto (-30), 3) := by decide +kernel
theorem dX2_shiftFor_37 : decode cX2_shiftFor 37 = .ok (.iload_n 2, 1) := by decide +kernel
theorem dX2_shiftFor_38 : decode cX2_shiftFor 38 = .ok (.ireturn, 1) := by decide +kernel
set_option maxRecDepth 20000 in
theorem ggX2_bestShift_X2_isLamp : GoodIn wsX2_bestShift wsX2_isLamp := goodIn_r _ [6, 7, 8, 9, 5, 10, 32, 33, 34, 35, 36, 37, 38, 39, 40, 41] (by decide +kernel) (by decide +kernel)
set_option maxRecDepth 20000 in
theorem gX2_bestShift_X2_isLamp : GoodIn wsX2_bestShift (wsV RX2 45 RX2 yX2_isLamp wsX2_isLamp) := goodIn_app (goodIn_of _ (by decide +kernel)) ggX2_bestShift_X2_isLamp
set_option maxRecDepth 20000 in
theorem ggX2_bestShift_X2_shiftFor : GoodIn wsX2_bestShift wsX2_shiftFor := goodIn_r _ [14, 15, 16, 17, 18, 5, 19, 7, 20, 21, 22, 23, 24, 25, 26, 27, 32, 33, 34, 35, 36, 37, 38, 39, 40, 41] (by decide +kernel) (by decide +kernel)
set_option maxRecDepth 20000 in
theorem gX2_bestShift_X2_shiftFor : GoodIn wsX2_bestShift (wsV RX2 129 RX2 yX2_shiftFor wsX2_shiftFor) := goodIn_app (goodIn_of _ (by decide +kernel)) ggX2_bestShift_X2_shiftFor
set_option maxRecDepth 20000 in
theorem ggX2_bestShift_X2_no : GoodIn wsX2_bestShift wsX2_no := goodIn_r _ [31, 1, 32, 33, 34, 35, 36, 37, 38, 39, 40, 41] (by decide +kernel) (by decide +kernel)
set_option maxRecDepth 20000 in
theorem gX2_bestShift_X2_no : GoodIn wsX2_bestShift (wsV RX2 69 RX2 yX2_no wsX2_no) := goodIn_app (goodIn_of _ (by decide +kernel)) ggX2_bestShift_X2_no
theorem dX2_bestShift_0 : decode cX2_bestShift 0 = .ok (.aload_n 0, 1) := by decide +kernel
theorem dX2_bestShift_1 : decode cX2_bestShift 1 = .ok (.iconst 0, 1) := by decide +kernel
theorem dX2_bestShift_2 : decode cX2_bestShift 2 = .ok (.putfield 35, 3) := by decide +kernel
theorem dX2_bestShift_5 : decode cX2_bestShift 5 = .ok (.aload_n 0, 1) := by decide +kernel
theorem dX2_bestShift_6 : decode cX2_bestShift 6 = .ok (.iload_n 1, 1) := by decide +kernel
theorem dX2_bestShift_7 : decode cX2_bestShift 7 = .ok (.invokevirtual 45, 3) := by decide +kernel
theorem dX2_bestShift_10 : decode cX2_bestShift 10 = .ok (.ifCond .eq 11, 3) := by decide +kernel
theorem dX2_bestShift_13 : decode cX2_bestShift 13 = .ok (.aload_n 0, 1) := by decide +kernel
theorem dX2_bestShift_14 : decode cX2_bestShift 14 = .ok (.iload_n 1, 1) := by decide +kernel
theorem dX2_bestShift_15 : decode cX2_bestShift 15 = .ok (.invokevirtual 129, 3) := by decide +kernel
theorem dX2_bestShift_18 : decode cX2_bestShift 18 = .ok (.goto 8, 3) := by decide +kernel
theorem dX2_bestShift_21 : decode cX2_bestShift 21 = .ok (.aload_n 0, 1) := by decide +kernel
theorem dX2_bestShift_22 : decode cX2_bestShift 22 = .ok (.iconst 1, 1) := by decide +kernel
theorem dX2_bestShift_23 : decode cX2_bestShift 23 = .ok (.invokevirtual 69, 3) := by decide +kernel
theorem dX2_bestShift_26 : decode cX2_bestShift 26 = .ok (.ireturn, 1) := by decide +kernel
set_option maxRecDepth 20000 in
theorem ggX2_manyDue_X2_phaseIn : GoodIn wsX2_manyDue wsX2_phaseIn := goodIn_r _ [7, 8, 9, 1, 10, 11, 12, 13, 14, 15, 16, 17, 18, 19] (by decide +kernel) (by decide +kernel)
set_option maxRecDepth 20000 in
theorem gX2_manyDue_X2_phaseIn : GoodIn wsX2_manyDue (wsV RX2 49 RX2 yX2_phaseIn wsX2_phaseIn) := goodIn_app (goodIn_of _ (by decide +kernel)) ggX2_manyDue_X2_phaseIn
theorem dX2_manyDue_0 : decode cX2_manyDue 0 = .ok (.iload_n 2, 1) := by decide +kernel
theorem dX2_manyDue_1 : decode cX2_manyDue 1 = .ok (.aload_n 0, 1) := by decide +kernel
theorem dX2_manyDue_2 : decode cX2_manyDue 2 = .ok (.getfield 17, 3) := by decide +kernel
theorem dX2_manyDue_5 : decode cX2_manyDue 5 = .ok (.iload_n 1, 1) := by decide +kernel
theorem dX2_manyDue_6 : decode cX2_manyDue 6 = .ok (.iaload, 1) := by decide +kernel
theorem dX2_manyDue_7 : decode cX2_manyDue 7 = .ok (.idiv, 1) := by decide +kernel
theorem dX2_manyDue_8 : decode cX2_manyDue 8 = .ok (.aload_n 0, 1) := by decide +kernel
theorem dX2_manyDue_9 : decode cX2_manyDue 9 = .ok (.getfield 23, 3) := by decide +kernel
theorem dX2_manyDue_12 : decode cX2_manyDue 12 = .ok (.iload_n 1, 1) := by decide +kernel
theorem dX2_manyDue_13 : decode cX2_manyDue 13 = .ok (.iaload, 1) := by decide +kernel
theorem dX2_manyDue_14 : decode cX2_manyDue 14 = .ok (.imul, 1) := by decide +kernel
theorem dX2_manyDue_15 : decode cX2_manyDue 15 = .ok (.istore_n 3, 1) := by decide +kernel
theorem dX2_manyDue_16 : decode cX2_manyDue 16 = .ok (.iconst 0, 1) := by decide +kernel
theorem dX2_manyDue_17 : decode cX2_manyDue 17 = .ok (.istore 4, 2) := by decide +kernel
theorem dX2_manyDue_19 : decode cX2_manyDue 19 = .ok (.iload 4, 2) := by decide +kernel
theorem dX2_manyDue_21 : decode cX2_manyDue 21 = .ok (.iload_n 2, 1) := by decide +kernel
theorem dX2_manyDue_22 : decode cX2_manyDue 22 = .ok (.aload_n 0, 1) := by decide +kernel
theorem dX2_manyDue_23 : decode cX2_manyDue 23 = .ok (.getfield 17, 3) := by decide +kernel
theorem dX2_manyDue_26 : decode cX2_manyDue 26 = .ok (.iload_n 1, 1) := by decide +kernel
theorem dX2_manyDue_27 : decode cX2_manyDue 27 = .ok (.iaload, 1) := by decide +kernel
theorem dX2_manyDue_28 : decode cX2_manyDue 28 = .ok (.irem, 1) := by decide +kernel
theorem dX2_manyDue_29 : decode cX2_manyDue 29 = .ok (.if_icmp .ge 33, 3) := by decide +kernel
theorem dX2_manyDue_32 : decode cX2_manyDue 32 = .ok (.iload_n 3, 1) := by decide +kernel
theorem dX2_manyDue_33 : decode cX2_manyDue 33 = .ok (.aload_n 0, 1) := by decide +kernel
theorem dX2_manyDue_34 : decode cX2_manyDue 34 = .ok (.iload_n 1, 1) := by decide +kernel
theorem dX2_manyDue_35 : decode cX2_manyDue 35 = .ok (.iload 4, 2) := by decide +kernel
theorem dX2_manyDue_37 : decode cX2_manyDue 37 = .ok (.invokevirtual 49, 3) := by decide +kernel
theorem dX2_manyDue_40 : decode cX2_manyDue 40 = .ok (.aload_n 0, 1) := by decide +kernel
theorem dX2_manyDue_41 : decode cX2_manyDue 41 = .ok (.getfield 23, 3) := by decide +kernel
theorem dX2_manyDue_44 : decode cX2_manyDue 44 = .ok (.iload_n 1, 1) := by decide +kernel
theorem dX2_manyDue_45 : decode cX2_manyDue 45 = .ok (.iaload, 1) := by decide +kernel
theorem dX2_manyDue_46 : decode cX2_manyDue 46 = .ok (.if_icmp .ge 7, 3) := by decide +kernel
theorem dX2_manyDue_49 : decode cX2_manyDue 49 = .ok (.iconst 1, 1) := by decide +kernel
theorem dX2_manyDue_50 : decode cX2_manyDue 50 = .ok (.goto 4, 3) := by decide +kernel
theorem dX2_manyDue_53 : decode cX2_manyDue 53 = .ok (.iconst 0, 1) := by decide +kernel
