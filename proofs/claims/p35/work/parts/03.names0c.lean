theorem wsL_law_x0 : ∀ w ∈ (vx_atS RX1 35 "java/lang/IllegalStateException" ["java/lang/RuntimeException", "java/lang/Exception"]).filter goodWord, w ∈ lw_tbl := by decide +kernel
theorem wsL_law_x1 : ∀ w ∈ (vx_atS RX1 64 "java/lang/IllegalArgumentException" ["java/lang/RuntimeException", "java/lang/Exception"]).filter goodWord, w ∈ lw_tbl := by decide +kernel
theorem wsL_law_x2 : ∀ w ∈ (vx_atS RX1 183 "java/lang/IndexOutOfBoundsException" ["java/lang/RuntimeException", "java/lang/Exception"]).filter goodWord, w ∈ lw_tbl := by decide +kernel
theorem wsL_law_in : ∀ w ∈ wsL_law, w ∈ lw_tbl := fun w h => (List.mem_append.mp h).elim (fun h => (List.mem_append.mp h).elim (fun h => (List.mem_append.mp h).elim (fun h => wsL_law_in0 w h) (fun h => wsL_law_x0 w h)) (fun h => wsL_law_x1 w h)) (fun h => wsL_law_x2 w h)
theorem inlX0 : ∀ w ∈ wsX00, w ∈ wsL_law := fun _ h => List.mem_append_left _ (List.mem_append_left _ (List.mem_append_left _ (List.mem_append_left _ (List.mem_append_right _ h))))
theorem inX0 : ∀ w ∈ wsX00, w ∈ lw_tbl := fun w h => wsL_law_in w (inlX0 w h)
theorem inlX1 : ∀ w ∈ wsX10, w ∈ wsL_law := fun _ h => List.mem_append_left _ (List.mem_append_left _ (List.mem_append_left _ (List.mem_append_left _ (List.mem_append_left _ (List.mem_append_left _ (List.mem_append_left _ (List.mem_append_right _ h)))))))
theorem inX1 : ∀ w ∈ wsX10, w ∈ lw_tbl := fun w h => wsL_law_in w (inlX1 w h)
theorem inlX2 : ∀ w ∈ wsX20, w ∈ wsL_law := fun _ h => List.mem_append_left _ (List.mem_append_left _ (List.mem_append_left _ (List.mem_append_left _ (List.mem_append_left _ (List.mem_append_left _ (List.mem_append_right _ h))))))
theorem inX2 : ∀ w ∈ wsX20, w ∈ lw_tbl := fun w h => wsL_law_in w (inlX2 w h)
theorem inX3 : ∀ w ∈ wsX30, w ∈ lw_tbl := by decide +kernel
theorem inJx145de : ∀ w ∈ wsJx145de0, w ∈ lw_tbl := by decide +kernel
theorem inJx8e188 : ∀ w ∈ wsJx8e1880, w ∈ lw_tbl := by decide +kernel
theorem inJxab1ab : ∀ w ∈ wsJxab1ab0, w ∈ lw_tbl := by decide +kernel
theorem inJ9 : ∀ w ∈ wsJ90, w ∈ lw_tbl := by decide +kernel
theorem inJ0 : ∀ w ∈ wsJ00, w ∈ lw_tbl := by decide +kernel
theorem inJ10 : ∀ w ∈ wsJ100, w ∈ lw_tbl := by decide +kernel
theorem inJxa1e45 : ∀ w ∈ wsJxa1e450, w ∈ lw_tbl := by decide +kernel
theorem inJxc12de : ∀ w ∈ wsJxc12de0, w ∈ lw_tbl := by decide +kernel
theorem inlJx4a65c : ∀ w ∈ wsJx4a65c0, w ∈ wsL_law := fun _ h => List.mem_append_left _ (List.mem_append_left _ (List.mem_append_left _ (List.mem_append_left _ (List.mem_append_left _ (List.mem_append_right _ h)))))
theorem inJx4a65c : ∀ w ∈ wsJx4a65c0, w ∈ lw_tbl := fun w h => wsL_law_in w (inlJx4a65c w h)
theorem inJ7 : ∀ w ∈ wsJ70, w ∈ lw_tbl := by decide +kernel
theorem inJx5ef63 : ∀ w ∈ wsJx5ef630, w ∈ lw_tbl := by decide +kernel
theorem inJxbd725 : ∀ w ∈ wsJxbd7250, w ∈ lw_tbl := by decide +kernel
theorem inJ15 : ∀ w ∈ wsJ150, w ∈ lw_tbl := by decide +kernel
theorem inJxf0a74 : ∀ w ∈ wsJxf0a740, w ∈ lw_tbl := by decide +kernel
theorem inJxa66e6 : ∀ w ∈ wsJxa66e60, w ∈ lw_tbl := by decide +kernel
theorem inJ8 : ∀ w ∈ wsJ80, w ∈ lw_tbl := by decide +kernel
theorem inJ3 : ∀ w ∈ wsJ30, w ∈ lw_tbl := by decide +kernel
theorem dX0_init_0 : decode cX0_init 0 = .ok (.aload_n 0, 1) := by decide +kernel
theorem dX0_init_1 : decode cX0_init 1 = .ok (.invokespecial 1, 3) := by decide +kernel
theorem dX0_init_4 : decode cX0_init 4 = .ok (.aload_n 0, 1) := by decide +kernel
theorem dX0_init_5 : decode cX0_init 5 = .ok (.iload_n 1, 1) := by decide +kernel
theorem dX0_init_6 : decode cX0_init 6 = .ok (.putfield 7, 3) := by decide +kernel
theorem dX0_init_9 : decode cX0_init 9 = .ok (.aload_n 0, 1) := by decide +kernel
theorem dX0_init_10 : decode cX0_init 10 = .ok (.iload_n 2, 1) := by decide +kernel
theorem dX0_init_11 : decode cX0_init 11 = .ok (.putfield 13, 3) := by decide +kernel
theorem dX0_init_14 : decode cX0_init 14 = .ok (.aload_n 0, 1) := by decide +kernel
theorem dX0_init_15 : decode cX0_init 15 = .ok (.iload_n 3, 1) := by decide +kernel
theorem dX0_init_16 : decode cX0_init 16 = .ok (.putfield 16, 3) := by decide +kernel
theorem dX0_init_19 : decode cX0_init 19 = .ok (.aload_n 0, 1) := by decide +kernel
theorem dX0_init_20 : decode cX0_init 20 = .ok (.iload 4, 2) := by decide +kernel
theorem dX0_init_22 : decode cX0_init 22 = .ok (.putfield 19, 3) := by decide +kernel
theorem dX0_init_25 : decode cX0_init 25 = .ok (.aload_n 0, 1) := by decide +kernel
theorem dX0_init_26 : decode cX0_init 26 = .ok (.iconst 0, 1) := by decide +kernel
theorem dX0_init_27 : decode cX0_init 27 = .ok (.putfield 22, 3) := by decide +kernel
theorem dX0_init_30 : decode cX0_init 30 = .ok (.aload_n 0, 1) := by decide +kernel
theorem dX0_init_31 : decode cX0_init 31 = .ok (.iconst 0, 1) := by decide +kernel
theorem dX0_init_32 : decode cX0_init 32 = .ok (.putfield 25, 3) := by decide +kernel
theorem dX0_init_35 : decode cX0_init 35 = .ok (.aload_n 0, 1) := by decide +kernel
theorem dX0_init_36 : decode cX0_init 36 = .ok (.iconst 0, 1) := by decide +kernel
theorem dX0_init_37 : decode cX0_init 37 = .ok (.putfield 28, 3) := by decide +kernel
theorem dX0_init_40 : decode cX0_init 40 = .ok (.aload_n 0, 1) := by decide +kernel
theorem dX0_init_41 : decode cX0_init 41 = .ok (.iconst 0, 1) := by decide +kernel
theorem dX0_init_42 : decode cX0_init 42 = .ok (.putfield 31, 3) := by decide +kernel
theorem dX0_init_45 : decode cX0_init 45 = .ok (.aload_n 0, 1) := by decide +kernel
theorem dX0_init_46 : decode cX0_init 46 = .ok (.iconst 0, 1) := by decide +kernel
theorem dX0_init_47 : decode cX0_init 47 = .ok (.putfield 35, 3) := by decide +kernel
theorem dX0_init_50 : decode cX0_init 50 = .ok (.return_, 1) := by decide +kernel
theorem dX0_phaseAt_0 : decode cX0_phaseAt 0 = .ok (.aload_n 0, 1) := by decide +kernel
theorem dX0_phaseAt_1 : decode cX0_phaseAt 1 = .ok (.getfield 13, 3) := by decide +kernel
theorem dX0_phaseAt_4 : decode cX0_phaseAt 4 = .ok (.iconst 1, 1) := by decide +kernel
theorem dX0_phaseAt_5 : decode cX0_phaseAt 5 = .ok (.if_icmp .ge 7, 3) := by decide +kernel
theorem dX0_phaseAt_8 : decode cX0_phaseAt 8 = .ok (.iconst 0, 1) := by decide +kernel
theorem dX0_phaseAt_9 : decode cX0_phaseAt 9 = .ok (.goto 14, 3) := by decide +kernel
theorem dX0_phaseAt_12 : decode cX0_phaseAt 12 = .ok (.iload_n 1, 1) := by decide +kernel
theorem dX0_phaseAt_13 : decode cX0_phaseAt 13 = .ok (.aload_n 0, 1) := by decide +kernel
theorem dX0_phaseAt_14 : decode cX0_phaseAt 14 = .ok (.getfield 22, 3) := by decide +kernel
theorem dX0_phaseAt_17 : decode cX0_phaseAt 17 = .ok (.iadd, 1) := by decide +kernel
theorem dX0_phaseAt_18 : decode cX0_phaseAt 18 = .ok (.aload_n 0, 1) := by decide +kernel
theorem dX0_phaseAt_19 : decode cX0_phaseAt 19 = .ok (.getfield 13, 3) := by decide +kernel
theorem dX0_phaseAt_22 : decode cX0_phaseAt 22 = .ok (.irem, 1) := by decide +kernel
theorem dX0_phaseAt_23 : decode cX0_phaseAt 23 = .ok (.ireturn, 1) := by decide +kernel
set_option maxRecDepth 20000 in
theorem ggX0_dueAt_X0_phaseAt : GoodIn wsX0_dueAt wsX0_phaseAt := goodIn_r _ [6, 7, 8, 9, 10, 11, 12, 13, 14, 15, 16, 17] (by decide +kernel) (by decide +kernel)
set_option maxRecDepth 20000 in
theorem gX0_dueAt_X0_phaseAt : GoodIn wsX0_dueAt (wsV RX0 38 RX0 yX0_phaseAt wsX0_phaseAt) := goodIn_app (goodIn_of _ (by decide +kernel)) ggX0_dueAt_X0_phaseAt
theorem dX0_dueAt_0 : decode cX0_dueAt 0 = .ok (.aload_n 0, 1) := by decide +kernel
theorem dX0_dueAt_1 : decode cX0_dueAt 1 = .ok (.iload_n 1, 1) := by decide +kernel
theorem dX0_dueAt_2 : decode cX0_dueAt 2 = .ok (.invokevirtual 38, 3) := by decide +kernel
theorem dX0_dueAt_5 : decode cX0_dueAt 5 = .ok (.aload_n 0, 1) := by decide +kernel
theorem dX0_dueAt_6 : decode cX0_dueAt 6 = .ok (.getfield 16, 3) := by decide +kernel
theorem dX0_dueAt_9 : decode cX0_dueAt 9 = .ok (.if_icmp .ge 7, 3) := by decide +kernel
theorem dX0_dueAt_12 : decode cX0_dueAt 12 = .ok (.iconst 1, 1) := by decide +kernel
theorem dX0_dueAt_13 : decode cX0_dueAt 13 = .ok (.goto 4, 3) := by decide +kernel
theorem dX0_dueAt_16 : decode cX0_dueAt 16 = .ok (.iconst 0, 1) := by decide +kernel
theorem dX0_dueAt_17 : decode cX0_dueAt 17 = .ok (.ireturn, 1) := by decide +kernel
set_option maxRecDepth 20000 in
theorem ggX0_lightsUpAt_X0_phaseAt : GoodIn wsX0_lightsUpAt wsX0_phaseAt := goodIn_r _ [5, 6, 7, 8, 9, 10, 11, 12, 13, 14, 15, 16] (by decide +kernel) (by decide +kernel)
set_option maxRecDepth 20000 in
theorem gX0_lightsUpAt_X0_phaseAt : GoodIn wsX0_lightsUpAt (wsV RX0 38 RX0 yX0_phaseAt wsX0_phaseAt) := goodIn_app (goodIn_of _ (by decide +kernel)) ggX0_lightsUpAt_X0_phaseAt
theorem dX0_lightsUpAt_0 : decode cX0_lightsUpAt 0 = .ok (.aload_n 0, 1) := by decide +kernel
theorem dX0_lightsUpAt_1 : decode cX0_lightsUpAt 1 = .ok (.iload_n 1, 1) := by decide +kernel
theorem dX0_lightsUpAt_2 : decode cX0_lightsUpAt 2 = .ok (.invokevirtual 38, 3) := by decide +kernel
theorem dX0_lightsUpAt_5 : decode cX0_lightsUpAt 5 = .ok (.ifCond .ne 7, 3) := by decide +kernel
theorem dX0_lightsUpAt_8 : decode cX0_lightsUpAt 8 = .ok (.iconst 1, 1) := by decide +kernel
theorem dX0_lightsUpAt_9 : decode cX0_lightsUpAt 9 = .ok (.goto 4, 3) := by decide +kernel
theorem dX0_lightsUpAt_12 : decode cX0_lightsUpAt 12 = .ok (.iconst 0, 1) := by decide +kernel
theorem dX0_lightsUpAt_13 : decode cX0_lightsUpAt 13 = .ok (.ireturn, 1) := by decide +kernel
set_option maxRecDepth 20000 in
theorem ggX0_beatsUntilItLightsUp_X0_phaseAt : GoodIn wsX0_beatsUntilItLightsUp wsX0_phaseAt := goodIn_r _ [6, 1, 7, 8, 9, 10, 11, 12, 13, 14, 15, 16] (by decide +kernel) (by decide +kernel)
set_option maxRecDepth 20000 in
theorem gX0_beatsUntilItLightsUp_X0_phaseAt : GoodIn wsX0_beatsUntilItLightsUp (wsV RX0 38 RX0 yX0_phaseAt wsX0_phaseAt) := goodIn_app (goodIn_of _ (by decide +kernel)) ggX0_beatsUntilItLightsUp_X0_phaseAt
theorem dX0_beatsUntilItLightsUp_0 : decode cX0_beatsUntilItLightsUp 0 = .ok (.aload_n 0, 1) := by decide +kernel
theorem dX0_beatsUntilItLightsUp_1 : decode cX0_beatsUntilItLightsUp 1 = .ok (.iload_n 1, 1) := by decide +kernel
theorem dX0_beatsUntilItLightsUp_2 : decode cX0_beatsUntilItLightsUp 2 = .ok (.invokevirtual 38, 3) := by decide +kernel
theorem dX0_beatsUntilItLightsUp_5 : decode cX0_beatsUntilItLightsUp 5 = .ok (.istore_n 2, 1) := by decide +kernel
theorem dX0_beatsUntilItLightsUp_6 : decode cX0_beatsUntilItLightsUp 6 = .ok (.iload_n 2, 1) := by decide +kernel
theorem dX0_beatsUntilItLightsUp_7 : decode cX0_beatsUntilItLightsUp 7 = .ok (.ifCond .ne 7, 3) := by decide +kernel
theorem dX0_beatsUntilItLightsUp_10 : decode cX0_beatsUntilItLightsUp 10 = .ok (.iconst 0, 1) := by decide +kernel
theorem dX0_beatsUntilItLightsUp_11 : decode cX0_beatsUntilItLightsUp 11 = .ok (.goto 9, 3) := by decide +kernel
theorem dX0_beatsUntilItLightsUp_14 : decode cX0_beatsUntilItLightsUp 14 = .ok (.aload_n 0, 1) := by decide +kernel
theorem dX0_beatsUntilItLightsUp_15 : decode cX0_beatsUntilItLightsUp 15 = .ok (.getfield 13, 3) := by decide +kernel
theorem dX0_beatsUntilItLightsUp_18 : decode cX0_beatsUntilItLightsUp 18 = .ok (.iload_n 2, 1) := by decide +kernel
theorem dX0_beatsUntilItLightsUp_19 : decode cX0_beatsUntilItLightsUp 19 = .ok (.isub, 1) := by decide +kernel
theorem dX0_beatsUntilItLightsUp_20 : decode cX0_beatsUntilItLightsUp 20 = .ok (.ireturn, 1) := by decide +kernel
set_option maxRecDepth 20000 in
theorem ggX0_countDue_X0_dueAt : GoodIn wsX0_countDue wsX0_dueAt := goodIn_r _ [7, 2, 8, 9, 10, 6, 11, 1, 12, 13, 14, 15, 16, 17, 18, 19, 20, 21] (by decide +kernel) (by decide +kernel)
set_option maxRecDepth 20000 in
theorem gX0_countDue_X0_dueAt : GoodIn wsX0_countDue (wsV RX0 42 RX0 yX0_dueAt wsX0_dueAt) := goodIn_app (goodIn_of _ (by decide +kernel)) ggX0_countDue_X0_dueAt
theorem dX0_countDue_0 : decode cX0_countDue 0 = .ok (.aload_n 0, 1) := by decide +kernel
theorem dX0_countDue_1 : decode cX0_countDue 1 = .ok (.getfield 13, 3) := by decide +kernel
theorem dX0_countDue_4 : decode cX0_countDue 4 = .ok (.iconst 1, 1) := by decide +kernel
theorem dX0_countDue_5 : decode cX0_countDue 5 = .ok (.if_icmp .ge 5, 3) := by decide +kernel
theorem dX0_countDue_8 : decode cX0_countDue 8 = .ok (.iconst 0, 1) := by decide +kernel
theorem dX0_countDue_9 : decode cX0_countDue 9 = .ok (.ireturn, 1) := by decide +kernel
theorem dX0_countDue_10 : decode cX0_countDue 10 = .ok (.iload_n 2, 1) := by decide +kernel
theorem dX0_countDue_11 : decode cX0_countDue 11 = .ok (.aload_n 0, 1) := by decide +kernel
theorem dX0_countDue_12 : decode cX0_countDue 12 = .ok (.getfield 13, 3) := by decide +kernel
theorem dX0_countDue_15 : decode cX0_countDue 15 = .ok (.idiv, 1) := by decide +kernel
theorem dX0_countDue_16 : decode cX0_countDue 16 = .ok (.aload_n 0, 1) := by decide +kernel
theorem dX0_countDue_17 : decode cX0_countDue 17 = .ok (.getfield 16, 3) := by decide +kernel
theorem dX0_countDue_20 : decode cX0_countDue 20 = .ok (.imul, 1) := by decide +kernel
theorem dX0_countDue_21 : decode cX0_countDue 21 = .ok (.istore_n 3, 1) := by decide +kernel
theorem dX0_countDue_22 : decode cX0_countDue 22 = .ok (.iload_n 2, 1) := by decide +kernel
theorem dX0_countDue_23 : decode cX0_countDue 23 = .ok (.aload_n 0, 1) := by decide +kernel
theorem dX0_countDue_24 : decode cX0_countDue 24 = .ok (.getfield 13, 3) := by decide +kernel
theorem dX0_countDue_27 : decode cX0_countDue 27 = .ok (.irem, 1) := by decide +kernel
theorem dX0_countDue_28 : decode cX0_countDue 28 = .ok (.istore 4, 2) := by decide +kernel
theorem dX0_countDue_30 : decode cX0_countDue 30 = .ok (.iconst 0, 1) := by decide +kernel
theorem dX0_countDue_31 : decode cX0_countDue 31 = .ok (.istore 5, 2) := by decide +kernel
theorem dX0_countDue_33 : decode cX0_countDue 33 = .ok (.iload 5, 2) := by decide +kernel
theorem dX0_countDue_35 : decode cX0_countDue 35 = .ok (.iload 4, 2) := by decide +kernel
theorem dX0_countDue_37 : decode cX0_countDue 37 = .ok (.if_icmp .ge 23, 3) := by decide +kernel
theorem dX0_countDue_40 : decode cX0_countDue 40 = .ok (.aload_n 0, 1) := by decide +kernel
theorem dX0_countDue_41 : decode cX0_countDue 41 = .ok (.iload_n 1, 1) := by decide +kernel
theorem dX0_countDue_42 : decode cX0_countDue 42 = .ok (.iload 5, 2) := by decide +kernel
theorem dX0_countDue_44 : decode cX0_countDue 44 = .ok (.iadd, 1) := by decide +kernel
theorem dX0_countDue_45 : decode cX0_countDue 45 = .ok (.invokevirtual 42, 3) := by decide +kernel
theorem dX0_countDue_48 : decode cX0_countDue 48 = .ok (.ifCond .eq 6, 3) := by decide +kernel
theorem dX0_countDue_51 : decode cX0_countDue 51 = .ok (.iinc 3 1, 3) := by decide +kernel
theorem dX0_countDue_54 : decode cX0_countDue 54 = .ok (.iinc 5 1, 3) := by decide +kernel
theorem dX0_countDue_57 : decode cX0_countDue 57 = .ok (.goto (-24), 3) := by decide +kernel
theorem dX0_countDue_60 : decode cX0_countDue 60 = .ok (.iload_n 3, 1) := by decide +kernel
theorem dX0_countDue_61 : decode cX0_countDue 61 = .ok (.ireturn, 1) := by decide +kernel
set_option maxRecDepth 20000 in
theorem ggX1_init_Jx4a65c_init_da8c8 : GoodIn wsX1_init wsJx4a65c_init_da8c8 := goodIn_r _ [12, 13, 14, 15, 16, 17, 18, 19, 20, 21, 22, 23, 24, 2, 3, 25, 26, 27] (by decide +kernel) (by decide +kernel)
set_option maxRecDepth 20000 in
theorem gX1_init_Jx4a65c_init_da8c8 : GoodIn wsX1_init (wsJx4a65c_init_da8c8) := ggX1_init_Jx4a65c_init_da8c8
theorem dX1_init_0 : decode cX1_init 0 = .ok (.aload_n 0, 1) := by decide +kernel
theorem dX1_init_1 : decode cX1_init 1 = .ok (.invokespecial 1, 3) := by decide +kernel
theorem dX1_init_4 : decode cX1_init 4 = .ok (.aload_n 0, 1) := by decide +kernel
theorem dX1_init_5 : decode cX1_init 5 = .ok (.new 7, 3) := by decide +kernel
theorem dX1_init_8 : decode cX1_init 8 = .ok (.dup, 1) := by decide +kernel
theorem dX1_init_9 : decode cX1_init 9 = .ok (.invokespecial 9, 3) := by decide +kernel
theorem dX1_init_12 : decode cX1_init 12 = .ok (.putfield 10, 3) := by decide +kernel
theorem dX1_init_15 : decode cX1_init 15 = .ok (.aload_n 0, 1) := by decide +kernel
theorem dX1_init_16 : decode cX1_init 16 = .ok (.iconst 0, 1) := by decide +kernel
theorem dX1_init_17 : decode cX1_init 17 = .ok (.putfield 16, 3) := by decide +kernel
theorem dX1_init_20 : decode cX1_init 20 = .ok (.aload_n 0, 1) := by decide +kernel
theorem dX1_init_21 : decode cX1_init 21 = .ok (.bipush 20, 2) := by decide +kernel
theorem dX1_init_23 : decode cX1_init 23 = .ok (.putfield 20, 3) := by decide +kernel
theorem dX1_init_26 : decode cX1_init 26 = .ok (.return_, 1) := by decide +kernel
set_option maxRecDepth 20000 in
theorem ggX1_addLamp_X1_refuseOutside : GoodIn wsX1_addLamp wsX1_refuseOutside := goodIn_ca (goodIn_r _ [10, 11, 12] (by decide +kernel) (by decide +kernel)) (goodIn_sub (fun _ h => List.mem_cons_of_mem _ (List.mem_append_right _ h)) (by decide +kernel))
set_option maxRecDepth 20000 in
theorem gX1_addLamp_X1_refuseOutside : GoodIn wsX1_addLamp (va_wsS RX1 23 yX1_refuseOutside wsX1_refuseOutside) := goodIn_app (goodIn_of _ (by decide +kernel)) ggX1_addLamp_X1_refuseOutside
set_option maxRecDepth 20000 in
theorem ggX1_addLamp_Jx4a65c_size_8abf5 : GoodIn wsX1_addLamp wsJx4a65c_size_8abf5 := goodIn_r _ [17, 18, 100, 101, 102] (by decide +kernel) (by decide +kernel)
set_option maxRecDepth 20000 in
theorem gX1_addLamp_Jx4a65c_size_8abf5 : GoodIn wsX1_addLamp (wsV RX1 27 RJx4a65c yJx4a65c_size_8abf5 wsJx4a65c_size_8abf5) := goodIn_app (goodIn_of _ (by decide +kernel)) ggX1_addLamp_Jx4a65c_size_8abf5
set_option maxRecDepth 20000 in
theorem ggX1_addLamp_X0_init : GoodIn wsX1_addLamp wsX0_init := goodIn_r _ [21, 22, 23, 24, 25, 26, 27, 28, 29, 30, 31, 32, 33, 91, 92, 93, 94, 95, 96, 97, 98, 99] (by decide +kernel) (by decide +kernel)
set_option maxRecDepth 20000 in
theorem gX1_addLamp_X0_init : GoodIn wsX1_addLamp (wsX0_init) := ggX1_addLamp_X0_init
set_option maxRecDepth 20000 in
theorem ggX1_addLamp_Jx4a65c_add_9ea2d : GoodIn wsX1_addLamp wsJx4a65c_add_9ea2d := goodIn_r _ [37, 38, 39, 40, 18, 41, 42, 43, 16, 44, 45, 46, 47, 48, 49, 50, 51, 52, 53, 54, 55, 56, 57, 58, 59, 60, 61, 62, 63, 64, 65, 66, 67, 68, 69, 70, 71, 72, 73, 74, 75, 76, 77, 78, 79, 80, 81, 82, 83, 84, 85, 86, 87, 100, 101, 102] (by decide +kernel) (by decide +kernel)
set_option maxRecDepth 20000 in
theorem gX1_addLamp_Jx4a65c_add_9ea2d : GoodIn wsX1_addLamp (wsV RX1 43 RJx4a65c yJx4a65c_add_9ea2d wsJx4a65c_add_9ea2d) := goodIn_app (goodIn_of _ (by decide +kernel)) ggX1_addLamp_Jx4a65c_add_9ea2d
theorem dX1_addLamp_0 : decode cX1_addLamp 0 = .ok (.iload_n 1, 1) := by decide +kernel
theorem dX1_addLamp_1 : decode cX1_addLamp 1 = .ok (.iconst 0, 1) := by decide +kernel
theorem dX1_addLamp_2 : decode cX1_addLamp 2 = .ok (.iconst 5, 1) := by decide +kernel
theorem dX1_addLamp_3 : decode cX1_addLamp 3 = .ok (.invokestatic 23, 3) := by decide +kernel
theorem dX1_addLamp_6 : decode cX1_addLamp 6 = .ok (.iload_n 2, 1) := by decide +kernel
theorem dX1_addLamp_7 : decode cX1_addLamp 7 = .ok (.iconst 2, 1) := by decide +kernel
theorem dX1_addLamp_8 : decode cX1_addLamp 8 = .ok (.bipush 20, 2) := by decide +kernel
theorem dX1_addLamp_10 : decode cX1_addLamp 10 = .ok (.invokestatic 23, 3) := by decide +kernel
theorem dX1_addLamp_13 : decode cX1_addLamp 13 = .ok (.iload_n 3, 1) := by decide +kernel
theorem dX1_addLamp_14 : decode cX1_addLamp 14 = .ok (.iconst 1, 1) := by decide +kernel
theorem dX1_addLamp_15 : decode cX1_addLamp 15 = .ok (.iload_n 2, 1) := by decide +kernel
theorem dX1_addLamp_16 : decode cX1_addLamp 16 = .ok (.iconst 1, 1) := by decide +kernel
theorem dX1_addLamp_17 : decode cX1_addLamp 17 = .ok (.isub, 1) := by decide +kernel
theorem dX1_addLamp_18 : decode cX1_addLamp 18 = .ok (.invokestatic 23, 3) := by decide +kernel
theorem dX1_addLamp_21 : decode cX1_addLamp 21 = .ok (.iload 4, 2) := by decide +kernel
theorem dX1_addLamp_23 : decode cX1_addLamp 23 = .ok (.iconst 1, 1) := by decide +kernel
theorem dX1_addLamp_24 : decode cX1_addLamp 24 = .ok (.bipush 9, 2) := by decide +kernel
theorem dX1_addLamp_26 : decode cX1_addLamp 26 = .ok (.invokestatic 23, 3) := by decide +kernel
theorem dX1_addLamp_29 : decode cX1_addLamp 29 = .ok (.aload_n 0, 1) := by decide +kernel
theorem dX1_addLamp_30 : decode cX1_addLamp 30 = .ok (.getfield 10, 3) := by decide +kernel
theorem dX1_addLamp_33 : decode cX1_addLamp 33 = .ok (.invokevirtual 27, 3) := by decide +kernel
theorem dX1_addLamp_36 : decode cX1_addLamp 36 = .ok (.bipush 8, 2) := by decide +kernel
theorem dX1_addLamp_38 : decode cX1_addLamp 38 = .ok (.if_icmp .lt 13, 3) := by decide +kernel
theorem dX1_addLamp_41 : decode cX1_addLamp 41 = .ok (.new 31, 3) := by decide +kernel
theorem dX1_addLamp_44 : decode cX1_addLamp 44 = .ok (.dup, 1) := by decide +kernel
theorem dX1_addLamp_45 : decode cX1_addLamp 45 = .ok (.ldc 33, 2) := by decide +kernel
theorem dX1_addLamp_47 : decode cX1_addLamp 47 = .ok (.invokespecial 35, 3) := by decide +kernel
theorem dX1_addLamp_50 : decode cX1_addLamp 50 = .ok (.athrow, 1) := by decide +kernel
theorem dX1_addLamp_51 : decode cX1_addLamp 51 = .ok (.aload_n 0, 1) := by decide +kernel
theorem dX1_addLamp_52 : decode cX1_addLamp 52 = .ok (.getfield 10, 3) := by decide +kernel
theorem dX1_addLamp_55 : decode cX1_addLamp 55 = .ok (.new 38, 3) := by decide +kernel
theorem dX1_addLamp_58 : decode cX1_addLamp 58 = .ok (.dup, 1) := by decide +kernel
theorem dX1_addLamp_59 : decode cX1_addLamp 59 = .ok (.iload_n 1, 1) := by decide +kernel
theorem dX1_addLamp_60 : decode cX1_addLamp 60 = .ok (.iload_n 2, 1) := by decide +kernel
theorem dX1_addLamp_61 : decode cX1_addLamp 61 = .ok (.iload_n 3, 1) := by decide +kernel
theorem dX1_addLamp_62 : decode cX1_addLamp 62 = .ok (.iload 4, 2) := by decide +kernel
theorem dX1_addLamp_64 : decode cX1_addLamp 64 = .ok (.invokespecial 40, 3) := by decide +kernel
theorem dX1_addLamp_67 : decode cX1_addLamp 67 = .ok (.invokevirtual 43, 3) := by decide +kernel
theorem dX1_addLamp_70 : decode cX1_addLamp 70 = .ok (.pop, 1) := by decide +kernel
theorem dX1_addLamp_71 : decode cX1_addLamp 71 = .ok (.aload_n 0, 1) := by decide +kernel
theorem dX1_addLamp_72 : decode cX1_addLamp 72 = .ok (.getfield 10, 3) := by decide +kernel
theorem dX1_addLamp_75 : decode cX1_addLamp 75 = .ok (.invokevirtual 27, 3) := by decide +kernel
theorem dX1_addLamp_78 : decode cX1_addLamp 78 = .ok (.iconst 1, 1) := by decide +kernel
theorem dX1_addLamp_79 : decode cX1_addLamp 79 = .ok (.isub, 1) := by decide +kernel
theorem dX1_addLamp_80 : decode cX1_addLamp 80 = .ok (.ireturn, 1) := by decide +kernel
set_option maxRecDepth 20000 in
theorem ggX1_setShift_X1_lampAt : GoodIn wsX1_setShift wsX1_lampAt := goodIn_ca (goodIn_r _ [7, 8, 9, 10, 11, 12, 13, 14, 15, 16, 17, 18, 19, 20, 21, 22, 23, 24, 25, 26, 27, 28, 29, 30, 31, 32, 33, 34, 49, 50, 51, 52, 53, 54] (by decide +kernel) (by decide +kernel)) (goodIn_sub (fun _ h => List.mem_cons_of_mem _ (List.mem_append_left _ (List.mem_append_right _ h))) (by decide +kernel))
set_option maxRecDepth 20000 in
theorem gX1_setShift_X1_lampAt : GoodIn wsX1_setShift (wsV RX1 47 RX1 yX1_lampAt wsX1_lampAt) := goodIn_app (goodIn_of _ (by decide +kernel)) ggX1_setShift_X1_lampAt
set_option maxRecDepth 20000 in
theorem ggX1_setShift_X1_refuseOutside : GoodIn wsX1_setShift wsX1_refuseOutside := goodIn_ca (goodIn_r _ [37, 38, 39] (by decide +kernel) (by decide +kernel)) (goodIn_sub (fun _ h => List.mem_cons_of_mem _ (List.mem_append_right _ h)) (by decide +kernel))
set_option maxRecDepth 20000 in
theorem gX1_setShift_X1_refuseOutside : GoodIn wsX1_setShift (va_wsS RX1 23 yX1_refuseOutside wsX1_refuseOutside) := goodIn_app (goodIn_of _ (by decide +kernel)) ggX1_setShift_X1_refuseOutside
theorem dX1_setShift_0 : decode cX1_setShift 0 = .ok (.aload_n 0, 1) := by decide +kernel
theorem dX1_setShift_1 : decode cX1_setShift 1 = .ok (.iload_n 1, 1) := by decide +kernel
theorem dX1_setShift_2 : decode cX1_setShift 2 = .ok (.invokevirtual 47, 3) := by decide +kernel
theorem dX1_setShift_5 : decode cX1_setShift 5 = .ok (.astore_n 3, 1) := by decide +kernel
theorem dX1_setShift_6 : decode cX1_setShift 6 = .ok (.iload_n 2, 1) := by decide +kernel
theorem dX1_setShift_7 : decode cX1_setShift 7 = .ok (.iconst 0, 1) := by decide +kernel
theorem dX1_setShift_8 : decode cX1_setShift 8 = .ok (.aload_n 3, 1) := by decide +kernel
theorem dX1_setShift_9 : decode cX1_setShift 9 = .ok (.getfield 51, 3) := by decide +kernel
theorem dX1_setShift_12 : decode cX1_setShift 12 = .ok (.iconst 1, 1) := by decide +kernel
theorem dX1_setShift_13 : decode cX1_setShift 13 = .ok (.isub, 1) := by decide +kernel
theorem dX1_setShift_14 : decode cX1_setShift 14 = .ok (.invokestatic 23, 3) := by decide +kernel
theorem dX1_setShift_17 : decode cX1_setShift 17 = .ok (.aload_n 3, 1) := by decide +kernel
theorem dX1_setShift_18 : decode cX1_setShift 18 = .ok (.getfield 54, 3) := by decide +kernel
theorem dX1_setShift_21 : decode cX1_setShift 21 = .ok (.istore 4, 2) := by decide +kernel
theorem dX1_setShift_23 : decode cX1_setShift 23 = .ok (.aload_n 3, 1) := by decide +kernel
theorem dX1_setShift_24 : decode cX1_setShift 24 = .ok (.iload_n 2, 1) := by decide +kernel
theorem dX1_setShift_25 : decode cX1_setShift 25 = .ok (.putfield 54, 3) := by decide +kernel
theorem dX1_setShift_28 : decode cX1_setShift 28 = .ok (.iload 4, 2) := by decide +kernel
theorem dX1_setShift_30 : decode cX1_setShift 30 = .ok (.ireturn, 1) := by decide +kernel
set_option maxRecDepth 20000 in
theorem ggX1_setLength_X1_lampAt : GoodIn wsX1_setLength wsX1_lampAt := goodIn_ca (goodIn_r _ [7, 8, 9, 10, 11, 12, 13, 14, 15, 16, 17, 18, 19, 20, 21, 22, 23, 24, 25, 26, 27, 28, 29, 30, 31, 32, 33, 34, 49, 50, 51, 52, 53, 54] (by decide +kernel) (by decide +kernel)) (goodIn_sub (fun _ h => List.mem_cons_of_mem _ (List.mem_append_left _ (List.mem_append_right _ h))) (by decide +kernel))
set_option maxRecDepth 20000 in
theorem gX1_setLength_X1_lampAt : GoodIn wsX1_setLength (wsV RX1 47 RX1 yX1_lampAt wsX1_lampAt) := goodIn_app (goodIn_of _ (by decide +kernel)) ggX1_setLength_X1_lampAt
set_option maxRecDepth 20000 in
theorem ggX1_setLength_X1_refuseOutside : GoodIn wsX1_setLength wsX1_refuseOutside := goodIn_ca (goodIn_r _ [37, 38, 39] (by decide +kernel) (by decide +kernel)) (goodIn_sub (fun _ h => List.mem_cons_of_mem _ (List.mem_append_right _ h)) (by decide +kernel))
set_option maxRecDepth 20000 in
theorem gX1_setLength_X1_refuseOutside : GoodIn wsX1_setLength (va_wsS RX1 23 yX1_refuseOutside wsX1_refuseOutside) := goodIn_app (goodIn_of _ (by decide +kernel)) ggX1_setLength_X1_refuseOutside
theorem dX1_setLength_0 : decode cX1_setLength 0 = .ok (.aload_n 0, 1) := by decide +kernel
theorem dX1_setLength_1 : decode cX1_setLength 1 = .ok (.iload_n 1, 1) := by decide +kernel
theorem dX1_setLength_2 : decode cX1_setLength 2 = .ok (.invokevirtual 47, 3) := by decide +kernel
theorem dX1_setLength_5 : decode cX1_setLength 5 = .ok (.astore_n 3, 1) := by decide +kernel
theorem dX1_setLength_6 : decode cX1_setLength 6 = .ok (.iload_n 2, 1) := by decide +kernel
theorem dX1_setLength_7 : decode cX1_setLength 7 = .ok (.iconst 1, 1) := by decide +kernel
theorem dX1_setLength_8 : decode cX1_setLength 8 = .ok (.aload_n 3, 1) := by decide +kernel
theorem dX1_setLength_9 : decode cX1_setLength 9 = .ok (.getfield 51, 3) := by decide +kernel
theorem dX1_setLength_12 : decode cX1_setLength 12 = .ok (.iconst 1, 1) := by decide +kernel
theorem dX1_setLength_13 : decode cX1_setLength 13 = .ok (.isub, 1) := by decide +kernel
theorem dX1_setLength_14 : decode cX1_setLength 14 = .ok (.invokestatic 23, 3) := by decide +kernel
theorem dX1_setLength_17 : decode cX1_setLength 17 = .ok (.aload_n 3, 1) := by decide +kernel
theorem dX1_setLength_18 : decode cX1_setLength 18 = .ok (.getfield 57, 3) := by decide +kernel
theorem dX1_setLength_21 : decode cX1_setLength 21 = .ok (.istore 4, 2) := by decide +kernel
theorem dX1_setLength_23 : decode cX1_setLength 23 = .ok (.aload_n 3, 1) := by decide +kernel
theorem dX1_setLength_24 : decode cX1_setLength 24 = .ok (.iload_n 2, 1) := by decide +kernel
theorem dX1_setLength_25 : decode cX1_setLength 25 = .ok (.putfield 57, 3) := by decide +kernel
theorem dX1_setLength_28 : decode cX1_setLength 28 = .ok (.iload 4, 2) := by decide +kernel
theorem dX1_setLength_30 : decode cX1_setLength 30 = .ok (.ireturn, 1) := by decide +kernel
set_option maxRecDepth 20000 in
theorem ggX1_swapColours_X1_lampAt : GoodIn wsX1_swapColours wsX1_lampAt := goodIn_ca (goodIn_r _ [8, 9, 10, 11, 12, 13, 14, 15, 16, 17, 18, 19, 20, 21, 22, 23, 24, 25, 26, 27, 28, 29, 30, 31, 32, 33, 34, 35, 45, 46, 47, 48, 49, 50] (by decide +kernel) (by decide +kernel)) (goodIn_sub (fun _ h => List.mem_cons_of_mem _ (List.mem_append_right _ h)) (by decide +kernel))
set_option maxRecDepth 20000 in
theorem gX1_swapColours_X1_lampAt : GoodIn wsX1_swapColours (wsV RX1 47 RX1 yX1_lampAt wsX1_lampAt) := goodIn_app (goodIn_of _ (by decide +kernel)) ggX1_swapColours_X1_lampAt
theorem dX1_swapColours_0 : decode cX1_swapColours 0 = .ok (.aload_n 0, 1) := by decide +kernel
theorem dX1_swapColours_1 : decode cX1_swapColours 1 = .ok (.iload_n 1, 1) := by decide +kernel
theorem dX1_swapColours_2 : decode cX1_swapColours 2 = .ok (.invokevirtual 47, 3) := by decide +kernel
theorem dX1_swapColours_5 : decode cX1_swapColours 5 = .ok (.astore_n 3, 1) := by decide +kernel
theorem dX1_swapColours_6 : decode cX1_swapColours 6 = .ok (.aload_n 0, 1) := by decide +kernel
theorem dX1_swapColours_7 : decode cX1_swapColours 7 = .ok (.iload_n 2, 1) := by decide +kernel
theorem dX1_swapColours_8 : decode cX1_swapColours 8 = .ok (.invokevirtual 47, 3) := by decide +kernel
theorem dX1_swapColours_11 : decode cX1_swapColours 11 = .ok (.astore 4, 2) := by decide +kernel
theorem dX1_swapColours_13 : decode cX1_swapColours 13 = .ok (.iload_n 1, 1) := by decide +kernel
theorem dX1_swapColours_14 : decode cX1_swapColours 14 = .ok (.iload_n 2, 1) := by decide +kernel
theorem dX1_swapColours_15 : decode cX1_swapColours 15 = .ok (.if_icmp .ne 13, 3) := by decide +kernel
theorem dX1_swapColours_18 : decode cX1_swapColours 18 = .ok (.new 60, 3) := by decide +kernel
theorem dX1_swapColours_21 : decode cX1_swapColours 21 = .ok (.dup, 1) := by decide +kernel
theorem dX1_swapColours_22 : decode cX1_swapColours 22 = .ok (.ldc 62, 2) := by decide +kernel
theorem dX1_swapColours_24 : decode cX1_swapColours 24 = .ok (.invokespecial 64, 3) := by decide +kernel
theorem dX1_swapColours_27 : decode cX1_swapColours 27 = .ok (.athrow, 1) := by decide +kernel
theorem dX1_swapColours_28 : decode cX1_swapColours 28 = .ok (.aload_n 3, 1) := by decide +kernel
theorem dX1_swapColours_29 : decode cX1_swapColours 29 = .ok (.getfield 65, 3) := by decide +kernel
theorem dX1_swapColours_32 : decode cX1_swapColours 32 = .ok (.istore 5, 2) := by decide +kernel
theorem dX1_swapColours_34 : decode cX1_swapColours 34 = .ok (.aload_n 3, 1) := by decide +kernel
theorem dX1_swapColours_35 : decode cX1_swapColours 35 = .ok (.aload 4, 2) := by decide +kernel
theorem dX1_swapColours_37 : decode cX1_swapColours 37 = .ok (.getfield 65, 3) := by decide +kernel
theorem dX1_swapColours_40 : decode cX1_swapColours 40 = .ok (.putfield 65, 3) := by decide +kernel
theorem dX1_swapColours_43 : decode cX1_swapColours 43 = .ok (.aload 4, 2) := by decide +kernel
theorem dX1_swapColours_45 : decode cX1_swapColours 45 = .ok (.iload 5, 2) := by decide +kernel
theorem dX1_swapColours_47 : decode cX1_swapColours 47 = .ok (.putfield 65, 3) := by decide +kernel
theorem dX1_swapColours_50 : decode cX1_swapColours 50 = .ok (.aload_n 3, 1) := by decide +kernel
theorem dX1_swapColours_51 : decode cX1_swapColours 51 = .ok (.getfield 65, 3) := by decide +kernel
theorem dX1_swapColours_54 : decode cX1_swapColours 54 = .ok (.aload 4, 2) := by decide +kernel
theorem dX1_swapColours_56 : decode cX1_swapColours 56 = .ok (.getfield 65, 3) := by decide +kernel
theorem dX1_swapColours_59 : decode cX1_swapColours 59 = .ok (.if_icmp .eq 7, 3) := by decide +kernel
theorem dX1_swapColours_62 : decode cX1_swapColours 62 = .ok (.iconst 1, 1) := by decide +kernel
theorem dX1_swapColours_63 : decode cX1_swapColours 63 = .ok (.goto 4, 3) := by decide +kernel
theorem dX1_swapColours_66 : decode cX1_swapColours 66 = .ok (.iconst 0, 1) := by decide +kernel
theorem dX1_swapColours_67 : decode cX1_swapColours 67 = .ok (.ireturn, 1) := by decide +kernel
set_option maxRecDepth 20000 in
theorem ggX1_setLimit_X1_refuseOutside : GoodIn wsX1_setLimit wsX1_refuseOutside := goodIn_ca (goodIn_r _ [5, 6, 7] (by decide +kernel) (by decide +kernel)) (goodIn_sub (fun _ h => List.mem_cons_of_mem _ (List.mem_append_right _ h)) (by decide +kernel))
set_option maxRecDepth 20000 in
theorem gX1_setLimit_X1_refuseOutside : GoodIn wsX1_setLimit (va_wsS RX1 23 yX1_refuseOutside wsX1_refuseOutside) := goodIn_app (goodIn_of _ (by decide +kernel)) ggX1_setLimit_X1_refuseOutside
theorem dX1_setLimit_0 : decode cX1_setLimit 0 = .ok (.iload_n 1, 1) := by decide +kernel
theorem dX1_setLimit_1 : decode cX1_setLimit 1 = .ok (.iconst 0, 1) := by decide +kernel
theorem dX1_setLimit_2 : decode cX1_setLimit 2 = .ok (.bipush 99, 2) := by decide +kernel
theorem dX1_setLimit_4 : decode cX1_setLimit 4 = .ok (.invokestatic 23, 3) := by decide +kernel
theorem dX1_setLimit_7 : decode cX1_setLimit 7 = .ok (.aload_n 0, 1) := by decide +kernel
theorem dX1_setLimit_8 : decode cX1_setLimit 8 = .ok (.getfield 20, 3) := by decide +kernel
theorem dX1_setLimit_11 : decode cX1_setLimit 11 = .ok (.istore_n 2, 1) := by decide +kernel
theorem dX1_setLimit_12 : decode cX1_setLimit 12 = .ok (.aload_n 0, 1) := by decide +kernel
theorem dX1_setLimit_13 : decode cX1_setLimit 13 = .ok (.iload_n 1, 1) := by decide +kernel
theorem dX1_setLimit_14 : decode cX1_setLimit 14 = .ok (.putfield 20, 3) := by decide +kernel
theorem dX1_setLimit_17 : decode cX1_setLimit 17 = .ok (.iload_n 2, 1) := by decide +kernel
theorem dX1_setLimit_18 : decode cX1_setLimit 18 = .ok (.ireturn, 1) := by decide +kernel
set_option maxRecDepth 20000 in
theorem ggX1_pass_X1_refuseOutside : GoodIn wsX1_pass wsX1_refuseOutside := goodIn_ca (goodIn_r _ [4, 5, 6] (by decide +kernel) (by decide +kernel)) (goodIn_sub (fun _ h => List.mem_cons_of_mem _ (List.mem_append_right _ h)) (by decide +kernel))
set_option maxRecDepth 20000 in
theorem gX1_pass_X1_refuseOutside : GoodIn wsX1_pass (va_wsS RX1 23 yX1_refuseOutside wsX1_refuseOutside) := goodIn_app (goodIn_of _ (by decide +kernel)) ggX1_pass_X1_refuseOutside
set_option maxRecDepth 20000 in
theorem ggX1_pass_X1_playBeat : GoodIn wsX1_pass wsX1_playBeat := goodIn_r _ [10, 11, 12, 13, 14, 15, 16, 17, 18, 19, 3, 20, 21, 22, 23, 24, 25, 26, 27, 28, 29, 30, 31, 32, 33, 34, 35, 36, 37, 38, 39, 40, 41, 42, 43, 44, 45, 46, 47, 48, 49, 50, 51, 52, 53, 54, 55, 56, 57, 58, 59, 60, 61, 62, 63, 64, 65, 66, 67, 68, 69, 70, 71, 72] (by decide +kernel) (by decide +kernel)
set_option maxRecDepth 20000 in
theorem gX1_pass_X1_playBeat : GoodIn wsX1_pass (wsV RX1 68 RX1 yX1_playBeat wsX1_playBeat) := goodIn_app (goodIn_of _ (by decide +kernel)) ggX1_pass_X1_playBeat
theorem dX1_pass_0 : decode cX1_pass 0 = .ok (.iload_n 1, 1) := by decide +kernel
theorem dX1_pass_1 : decode cX1_pass 1 = .ok (.iconst 1, 1) := by decide +kernel
theorem dX1_pass_2 : decode cX1_pass 2 = .ok (.sipush 200, 3) := by decide +kernel
theorem dX1_pass_5 : decode cX1_pass 5 = .ok (.invokestatic 23, 3) := by decide +kernel
theorem dX1_pass_8 : decode cX1_pass 8 = .ok (.iconst 0, 1) := by decide +kernel
theorem dX1_pass_9 : decode cX1_pass 9 = .ok (.istore_n 2, 1) := by decide +kernel
theorem dX1_pass_10 : decode cX1_pass 10 = .ok (.iconst 0, 1) := by decide +kernel
theorem dX1_pass_11 : decode cX1_pass 11 = .ok (.istore_n 3, 1) := by decide +kernel
theorem dX1_pass_12 : decode cX1_pass 12 = .ok (.iload_n 3, 1) := by decide +kernel
theorem dX1_pass_13 : decode cX1_pass 13 = .ok (.iload_n 1, 1) := by decide +kernel
theorem dX1_pass_14 : decode cX1_pass 14 = .ok (.if_icmp .ge 19, 3) := by decide +kernel
theorem dX1_pass_17 : decode cX1_pass 17 = .ok (.aload_n 0, 1) := by decide +kernel
theorem dX1_pass_18 : decode cX1_pass 18 = .ok (.invokevirtual 68, 3) := by decide +kernel
theorem dX1_pass_21 : decode cX1_pass 21 = .ok (.ifCond .eq 6, 3) := by decide +kernel
theorem dX1_pass_24 : decode cX1_pass 24 = .ok (.iinc 2 1, 3) := by decide +kernel
theorem dX1_pass_27 : decode cX1_pass 27 = .ok (.iinc 3 1, 3) := by decide +kernel
theorem dX1_pass_30 : decode cX1_pass 30 = .ok (.goto (-18), 3) := by decide +kernel
theorem dX1_pass_33 : decode cX1_pass 33 = .ok (.iload_n 2, 1) := by decide +kernel
theorem dX1_pass_34 : decode cX1_pass 34 = .ok (.ireturn, 1) := by decide +kernel
theorem dX1_beat_0 : decode cX1_beat 0 = .ok (.aload_n 0, 1) := by decide +kernel
theorem dX1_beat_1 : decode cX1_beat 1 = .ok (.getfield 16, 3) := by decide +kernel
theorem dX1_beat_4 : decode cX1_beat 4 = .ok (.ireturn, 1) := by decide +kernel
set_option maxRecDepth 20000 in
theorem ggX1_lamps_Jx4a65c_size_8abf5 : GoodIn wsX1_lamps wsJx4a65c_size_8abf5 := goodIn_r _ [6, 7, 11, 12, 13] (by decide +kernel) (by decide +kernel)
set_option maxRecDepth 20000 in
theorem gX1_lamps_Jx4a65c_size_8abf5 : GoodIn wsX1_lamps (wsV RX1 27 RJx4a65c yJx4a65c_size_8abf5 wsJx4a65c_size_8abf5) := goodIn_app (goodIn_of _ (by decide +kernel)) ggX1_lamps_Jx4a65c_size_8abf5
theorem dX1_lamps_0 : decode cX1_lamps 0 = .ok (.aload_n 0, 1) := by decide +kernel
theorem dX1_lamps_1 : decode cX1_lamps 1 = .ok (.getfield 10, 3) := by decide +kernel
theorem dX1_lamps_4 : decode cX1_lamps 4 = .ok (.invokevirtual 27, 3) := by decide +kernel
theorem dX1_lamps_7 : decode cX1_lamps 7 = .ok (.ireturn, 1) := by decide +kernel
theorem dX1_limit_0 : decode cX1_limit 0 = .ok (.aload_n 0, 1) := by decide +kernel
theorem dX1_limit_1 : decode cX1_limit 1 = .ok (.getfield 20, 3) := by decide +kernel
theorem dX1_limit_4 : decode cX1_limit 4 = .ok (.ireturn, 1) := by decide +kernel
set_option maxRecDepth 20000 in
theorem ggX1_power_X1_lightLamps : GoodIn wsX1_power wsX1_lightLamps := goodIn_r _ [6, 7, 8, 9, 10, 11, 12, 13, 14, 15, 16, 17, 18, 19, 20, 21, 22, 23, 24, 25, 26, 27, 28, 29, 30, 31, 32, 33, 34, 35, 36, 37, 38, 39, 40, 41, 42, 43, 44, 45, 46, 47, 48, 49, 50, 51, 52, 53, 54, 55, 56, 57, 58, 59, 60, 61] (by decide +kernel) (by decide +kernel)
set_option maxRecDepth 20000 in
theorem gX1_power_X1_lightLamps : GoodIn wsX1_power (wsV RX1 72 RX1 yX1_lightLamps wsX1_lightLamps) := goodIn_app (goodIn_of _ (by decide +kernel)) ggX1_power_X1_lightLamps
theorem dX1_power_0 : decode cX1_power 0 = .ok (.aload_n 0, 1) := by decide +kernel
theorem dX1_power_1 : decode cX1_power 1 = .ok (.aload_n 0, 1) := by decide +kernel
theorem dX1_power_2 : decode cX1_power 2 = .ok (.getfield 16, 3) := by decide +kernel
theorem dX1_power_5 : decode cX1_power 5 = .ok (.invokevirtual 72, 3) := by decide +kernel
theorem dX1_power_8 : decode cX1_power 8 = .ok (.ireturn, 1) := by decide +kernel
set_option maxRecDepth 20000 in
theorem ggX1_phaseOf_X1_lampAt : GoodIn wsX1_phaseOf wsX1_lampAt := goodIn_ca (goodIn_r _ [6, 7, 8, 9, 10, 11, 12, 13, 14, 15, 16, 17, 18, 19, 20, 21, 22, 23, 24, 25, 26, 27, 28, 29, 30, 31, 32, 33, 41, 42, 43, 44, 45, 46] (by decide +kernel) (by decide +kernel)) (goodIn_sub (fun _ h => List.mem_cons_of_mem _ (List.mem_append_right _ h)) (by decide +kernel))
set_option maxRecDepth 20000 in
theorem gX1_phaseOf_X1_lampAt : GoodIn wsX1_phaseOf (wsV RX1 47 RX1 yX1_lampAt wsX1_lampAt) := goodIn_app (goodIn_of _ (by decide +kernel)) ggX1_phaseOf_X1_lampAt
set_option maxRecDepth 20000 in
theorem ggX1_phaseOf_X0_phaseAt : GoodIn wsX1_phaseOf wsX0_phaseAt := goodIn_r _ [38, 39, 40, 47, 48, 49, 50, 51, 52, 53, 54, 55] (by decide +kernel) (by decide +kernel)
set_option maxRecDepth 20000 in
theorem gX1_phaseOf_X0_phaseAt : GoodIn wsX1_phaseOf (wsV RX1 76 RX0 yX0_phaseAt wsX0_phaseAt) := goodIn_app (goodIn_of _ (by decide +kernel)) ggX1_phaseOf_X0_phaseAt
theorem dX1_phaseOf_0 : decode cX1_phaseOf 0 = .ok (.aload_n 0, 1) := by decide +kernel
theorem dX1_phaseOf_1 : decode cX1_phaseOf 1 = .ok (.iload_n 1, 1) := by decide +kernel
theorem dX1_phaseOf_2 : decode cX1_phaseOf 2 = .ok (.invokevirtual 47, 3) := by decide +kernel
theorem dX1_phaseOf_5 : decode cX1_phaseOf 5 = .ok (.aload_n 0, 1) := by decide +kernel
theorem dX1_phaseOf_6 : decode cX1_phaseOf 6 = .ok (.getfield 16, 3) := by decide +kernel
theorem dX1_phaseOf_9 : decode cX1_phaseOf 9 = .ok (.invokevirtual 76, 3) := by decide +kernel
theorem dX1_phaseOf_12 : decode cX1_phaseOf 12 = .ok (.ireturn, 1) := by decide +kernel
set_option maxRecDepth 20000 in
theorem ggX1_isDue_X1_lampAt : GoodIn wsX1_isDue wsX1_lampAt := goodIn_ca (goodIn_r _ [6, 7, 8, 9, 10, 11, 12, 13, 14, 15, 16, 17, 18, 19, 20, 21, 22, 23, 24, 25, 26, 27, 28, 29, 30, 31, 32, 33, 46, 47, 48, 49, 50, 51] (by decide +kernel) (by decide +kernel)) (goodIn_sub (fun _ h => List.mem_cons_of_mem _ (List.mem_append_right _ h)) (by decide +kernel))
set_option maxRecDepth 20000 in
theorem gX1_isDue_X1_lampAt : GoodIn wsX1_isDue (wsV RX1 47 RX1 yX1_lampAt wsX1_lampAt) := goodIn_app (goodIn_of _ (by decide +kernel)) ggX1_isDue_X1_lampAt
set_option maxRecDepth 20000 in
theorem ggX1_isDue_X0_dueAt : GoodIn wsX1_isDue wsX0_dueAt := goodIn_r _ [38, 39, 40, 41, 42, 37, 43, 44, 45, 52, 53, 54, 55, 56, 57, 58, 59, 60] (by decide +kernel) (by decide +kernel)
set_option maxRecDepth 20000 in
theorem gX1_isDue_X0_dueAt : GoodIn wsX1_isDue (wsV RX1 79 RX0 yX0_dueAt wsX0_dueAt) := goodIn_app (goodIn_of _ (by decide +kernel)) ggX1_isDue_X0_dueAt
theorem dX1_isDue_0 : decode cX1_isDue 0 = .ok (.aload_n 0, 1) := by decide +kernel
theorem dX1_isDue_1 : decode cX1_isDue 1 = .ok (.iload_n 1, 1) := by decide +kernel
theorem dX1_isDue_2 : decode cX1_isDue 2 = .ok (.invokevirtual 47, 3) := by decide +kernel
theorem dX1_isDue_5 : decode cX1_isDue 5 = .ok (.aload_n 0, 1) := by decide +kernel
theorem dX1_isDue_6 : decode cX1_isDue 6 = .ok (.getfield 16, 3) := by decide +kernel
theorem dX1_isDue_9 : decode cX1_isDue 9 = .ok (.invokevirtual 79, 3) := by decide +kernel
theorem dX1_isDue_12 : decode cX1_isDue 12 = .ok (.ireturn, 1) := by decide +kernel
set_option maxRecDepth 20000 in
theorem ggX1_shines_X1_lampAt : GoodIn wsX1_shines wsX1_lampAt := goodIn_ca (goodIn_r _ [7, 8, 9, 10, 11, 12, 13, 14, 15, 16, 17, 18, 19, 20, 21, 22, 23, 24, 25, 26, 27, 28, 29, 30, 31, 32, 33, 34, 53, 54, 55, 65, 66, 67] (by decide +kernel) (by decide +kernel)) (goodIn_sub (fun _ h => List.mem_cons_of_mem _ (List.mem_append_right _ h)) (by decide +kernel))
set_option maxRecDepth 20000 in
theorem gX1_shines_X1_lampAt : GoodIn wsX1_shines (wsV RX1 47 RX1 yX1_lampAt wsX1_lampAt) := goodIn_app (goodIn_of _ (by decide +kernel)) ggX1_shines_X1_lampAt
set_option maxRecDepth 20000 in
theorem ggX1_shines_X1_lightLamps : GoodIn wsX1_shines wsX1_lightLamps := goodIn_r _ [38, 10, 11, 39, 40, 2, 12, 13, 14, 15, 16, 17, 18, 19, 20, 21, 22, 23, 24, 25, 26, 27, 28, 29, 30, 31, 32, 33, 34, 41, 42, 43, 44, 45, 46, 47, 48, 49, 50, 51, 52, 53, 54, 55, 56, 57, 58, 59, 60, 61, 62, 63, 64, 65, 66, 67] (by decide +kernel) (by decide +kernel)
set_option maxRecDepth 20000 in
theorem gX1_shines_X1_lightLamps : GoodIn wsX1_shines (wsV RX1 72 RX1 yX1_lightLamps wsX1_lightLamps) := goodIn_app (goodIn_of _ (by decide +kernel)) ggX1_shines_X1_lightLamps
theorem dX1_shines_0 : decode cX1_shines 0 = .ok (.aload_n 0, 1) := by decide +kernel
theorem dX1_shines_1 : decode cX1_shines 1 = .ok (.iload_n 1, 1) := by decide +kernel
theorem dX1_shines_2 : decode cX1_shines 2 = .ok (.invokevirtual 47, 3) := by decide +kernel
theorem dX1_shines_5 : decode cX1_shines 5 = .ok (.astore_n 2, 1) := by decide +kernel
theorem dX1_shines_6 : decode cX1_shines 6 = .ok (.aload_n 0, 1) := by decide +kernel
theorem dX1_shines_7 : decode cX1_shines 7 = .ok (.aload_n 0, 1) := by decide +kernel
theorem dX1_shines_8 : decode cX1_shines 8 = .ok (.getfield 16, 3) := by decide +kernel
theorem dX1_shines_11 : decode cX1_shines 11 = .ok (.invokevirtual 72, 3) := by decide +kernel
theorem dX1_shines_14 : decode cX1_shines 14 = .ok (.pop, 1) := by decide +kernel
theorem dX1_shines_15 : decode cX1_shines 15 = .ok (.aload_n 2, 1) := by decide +kernel
theorem dX1_shines_16 : decode cX1_shines 16 = .ok (.getfield 83, 3) := by decide +kernel
theorem dX1_shines_19 : decode cX1_shines 19 = .ok (.ireturn, 1) := by decide +kernel
set_option maxRecDepth 20000 in
theorem ggX1_colourOf_X1_lampAt : GoodIn wsX1_colourOf wsX1_lampAt := goodIn_ca (goodIn_r _ [6, 7, 8, 9, 10, 11, 12, 13, 14, 15, 16, 17, 18, 19, 20, 21, 22, 23, 24, 25, 26, 27, 28, 29, 30, 31, 32, 33, 43, 44, 45, 46, 47, 48] (by decide +kernel) (by decide +kernel)) (goodIn_sub (fun _ h => List.mem_cons_of_mem _ (List.mem_append_right _ h)) (by decide +kernel))
set_option maxRecDepth 20000 in
theorem gX1_colourOf_X1_lampAt : GoodIn wsX1_colourOf (wsV RX1 47 RX1 yX1_lampAt wsX1_lampAt) := goodIn_app (goodIn_of _ (by decide +kernel)) ggX1_colourOf_X1_lampAt
theorem dX1_colourOf_0 : decode cX1_colourOf 0 = .ok (.aload_n 0, 1) := by decide +kernel
theorem dX1_colourOf_1 : decode cX1_colourOf 1 = .ok (.iload_n 1, 1) := by decide +kernel
theorem dX1_colourOf_2 : decode cX1_colourOf 2 = .ok (.invokevirtual 47, 3) := by decide +kernel
theorem dX1_colourOf_5 : decode cX1_colourOf 5 = .ok (.getfield 65, 3) := by decide +kernel
theorem dX1_colourOf_8 : decode cX1_colourOf 8 = .ok (.ireturn, 1) := by decide +kernel
set_option maxRecDepth 20000 in
theorem ggX1_shiftOf_X1_lampAt : GoodIn wsX1_shiftOf wsX1_lampAt := goodIn_ca (goodIn_r _ [6, 7, 8, 9, 10, 11, 12, 13, 14, 15, 16, 17, 18, 19, 20, 21, 22, 23, 24, 25, 26, 27, 28, 29, 30, 31, 32, 33, 43, 44, 45, 46, 47, 48] (by decide +kernel) (by decide +kernel)) (goodIn_sub (fun _ h => List.mem_cons_of_mem _ (List.mem_append_right _ h)) (by decide +kernel))
set_option maxRecDepth 20000 in
theorem gX1_shiftOf_X1_lampAt : GoodIn wsX1_shiftOf (wsV RX1 47 RX1 yX1_lampAt wsX1_lampAt) := goodIn_app (goodIn_of _ (by decide +kernel)) ggX1_shiftOf_X1_lampAt
theorem dX1_shiftOf_0 : decode cX1_shiftOf 0 = .ok (.aload_n 0, 1) := by decide +kernel
theorem dX1_shiftOf_1 : decode cX1_shiftOf 1 = .ok (.iload_n 1, 1) := by decide +kernel
theorem dX1_shiftOf_2 : decode cX1_shiftOf 2 = .ok (.invokevirtual 47, 3) := by decide +kernel
theorem dX1_shiftOf_5 : decode cX1_shiftOf 5 = .ok (.getfield 54, 3) := by decide +kernel
theorem dX1_shiftOf_8 : decode cX1_shiftOf 8 = .ok (.ireturn, 1) := by decide +kernel
set_option maxRecDepth 20000 in
theorem ggX1_shone_X1_lampAt : GoodIn wsX1_shone wsX1_lampAt := goodIn_ca (goodIn_r _ [6, 7, 8, 9, 10, 11, 12, 13, 14, 15, 16, 17, 18, 19, 20, 21, 22, 23, 24, 25, 26, 27, 28, 29, 30, 31, 32, 33, 43, 44, 45, 46, 47, 48] (by decide +kernel) (by decide +kernel)) (goodIn_sub (fun _ h => List.mem_cons_of_mem _ (List.mem_append_right _ h)) (by decide +kernel))
set_option maxRecDepth 20000 in
theorem gX1_shone_X1_lampAt : GoodIn wsX1_shone (wsV RX1 47 RX1 yX1_lampAt wsX1_lampAt) := goodIn_app (goodIn_of _ (by decide +kernel)) ggX1_shone_X1_lampAt
theorem dX1_shone_0 : decode cX1_shone 0 = .ok (.aload_n 0, 1) := by decide +kernel
theorem dX1_shone_1 : decode cX1_shone 1 = .ok (.iload_n 1, 1) := by decide +kernel
theorem dX1_shone_2 : decode cX1_shone 2 = .ok (.invokevirtual 47, 3) := by decide +kernel
theorem dX1_shone_5 : decode cX1_shone 5 = .ok (.getfield 87, 3) := by decide +kernel
theorem dX1_shone_8 : decode cX1_shone 8 = .ok (.ireturn, 1) := by decide +kernel
set_option maxRecDepth 20000 in
theorem ggX1_stayedDark_X1_lampAt : GoodIn wsX1_stayedDark wsX1_lampAt := goodIn_ca (goodIn_r _ [6, 7, 8, 9, 10, 11, 12, 13, 14, 15, 16, 17, 18, 19, 20, 21, 22, 23, 24, 25, 26, 27, 28, 29, 30, 31, 32, 33, 43, 44, 45, 46, 47, 48] (by decide +kernel) (by decide +kernel)) (goodIn_sub (fun _ h => List.mem_cons_of_mem _ (List.mem_append_right _ h)) (by decide +kernel))
set_option maxRecDepth 20000 in
theorem gX1_stayedDark_X1_lampAt : GoodIn wsX1_stayedDark (wsV RX1 47 RX1 yX1_lampAt wsX1_lampAt) := goodIn_app (goodIn_of _ (by decide +kernel)) ggX1_stayedDark_X1_lampAt
theorem dX1_stayedDark_0 : decode cX1_stayedDark 0 = .ok (.aload_n 0, 1) := by decide +kernel
theorem dX1_stayedDark_1 : decode cX1_stayedDark 1 = .ok (.iload_n 1, 1) := by decide +kernel
theorem dX1_stayedDark_2 : decode cX1_stayedDark 2 = .ok (.invokevirtual 47, 3) := by decide +kernel
theorem dX1_stayedDark_5 : decode cX1_stayedDark 5 = .ok (.getfield 90, 3) := by decide +kernel
theorem dX1_stayedDark_8 : decode cX1_stayedDark 8 = .ok (.ireturn, 1) := by decide +kernel
set_option maxRecDepth 20000 in
theorem ggX1_seen_X1_refuseOutside : GoodIn wsX1_seen wsX1_refuseOutside := goodIn_ca (goodIn_r _ [8, 9, 10] (by decide +kernel) (by decide +kernel)) (goodIn_sub (fun _ h => List.mem_cons_of_mem _ (List.mem_append_right _ h)) (by decide +kernel))
set_option maxRecDepth 20000 in
theorem gX1_seen_X1_refuseOutside : GoodIn wsX1_seen (va_wsS RX1 23 yX1_refuseOutside wsX1_refuseOutside) := goodIn_app (goodIn_of _ (by decide +kernel)) ggX1_seen_X1_refuseOutside
set_option maxRecDepth 20000 in
theorem ggX1_seen_Jx4a65c_size_8abf5 : GoodIn wsX1_seen wsJx4a65c_size_8abf5 := goodIn_r _ [15, 16, 46, 47, 48] (by decide +kernel) (by decide +kernel)
set_option maxRecDepth 20000 in
theorem gX1_seen_Jx4a65c_size_8abf5 : GoodIn wsX1_seen (wsV RX1 27 RJx4a65c yJx4a65c_size_8abf5 wsJx4a65c_size_8abf5) := goodIn_app (goodIn_of _ (by decide +kernel)) ggX1_seen_Jx4a65c_size_8abf5
set_option maxRecDepth 20000 in
theorem ggX1_seen_Jx4a65c_get_915e3 : GoodIn wsX1_seen wsJx4a65c_get_915e3 := goodIn_r _ [20, 16, 21, 22, 23, 24, 25, 26, 27, 28, 29, 30, 31, 14, 32, 33, 46, 47, 48] (by decide +kernel) (by decide +kernel)
set_option maxRecDepth 20000 in
theorem gX1_seen_Jx4a65c_get_915e3 : GoodIn wsX1_seen (wsV RX1 93 RJx4a65c yJx4a65c_get_915e3 wsJx4a65c_get_915e3) := goodIn_app (goodIn_of _ (by decide +kernel)) ggX1_seen_Jx4a65c_get_915e3
theorem dX1_seen_0 : decode cX1_seen 0 = .ok (.iload_n 1, 1) := by decide +kernel
theorem dX1_seen_1 : decode cX1_seen 1 = .ok (.iconst 0, 1) := by decide +kernel
theorem dX1_seen_2 : decode cX1_seen 2 = .ok (.iconst 5, 1) := by decide +kernel
theorem dX1_seen_3 : decode cX1_seen 3 = .ok (.invokestatic 23, 3) := by decide +kernel
theorem dX1_seen_6 : decode cX1_seen 6 = .ok (.iconst 0, 1) := by decide +kernel
theorem dX1_seen_7 : decode cX1_seen 7 = .ok (.istore_n 2, 1) := by decide +kernel
theorem dX1_seen_8 : decode cX1_seen 8 = .ok (.iconst 0, 1) := by decide +kernel
theorem dX1_seen_9 : decode cX1_seen 9 = .ok (.istore_n 3, 1) := by decide +kernel
theorem dX1_seen_10 : decode cX1_seen 10 = .ok (.iload_n 3, 1) := by decide +kernel
theorem dX1_seen_11 : decode cX1_seen 11 = .ok (.aload_n 0, 1) := by decide +kernel
theorem dX1_seen_12 : decode cX1_seen 12 = .ok (.getfield 10, 3) := by decide +kernel
theorem dX1_seen_15 : decode cX1_seen 15 = .ok (.invokevirtual 27, 3) := by decide +kernel
theorem dX1_seen_18 : decode cX1_seen 18 = .ok (.if_icmp .ge 39, 3) := by decide +kernel
theorem dX1_seen_21 : decode cX1_seen 21 = .ok (.aload_n 0, 1) := by decide +kernel
theorem dX1_seen_22 : decode cX1_seen 22 = .ok (.getfield 10, 3) := by decide +kernel
theorem dX1_seen_25 : decode cX1_seen 25 = .ok (.iload_n 3, 1) := by decide +kernel
theorem dX1_seen_26 : decode cX1_seen 26 = .ok (.invokevirtual 93, 3) := by decide +kernel
theorem dX1_seen_29 : decode cX1_seen 29 = .ok (.checkcast 38, 3) := by decide +kernel
theorem dX1_seen_32 : decode cX1_seen 32 = .ok (.astore 4, 2) := by decide +kernel
theorem dX1_seen_34 : decode cX1_seen 34 = .ok (.aload 4, 2) := by decide +kernel
theorem dX1_seen_36 : decode cX1_seen 36 = .ok (.getfield 65, 3) := by decide +kernel
theorem dX1_seen_39 : decode cX1_seen 39 = .ok (.iload_n 1, 1) := by decide +kernel
theorem dX1_seen_40 : decode cX1_seen 40 = .ok (.if_icmp .ne 11, 3) := by decide +kernel
theorem dX1_seen_43 : decode cX1_seen 43 = .ok (.iload_n 2, 1) := by decide +kernel
theorem dX1_seen_44 : decode cX1_seen 44 = .ok (.aload 4, 2) := by decide +kernel
theorem dX1_seen_46 : decode cX1_seen 46 = .ok (.getfield 87, 3) := by decide +kernel
theorem dX1_seen_49 : decode cX1_seen 49 = .ok (.iadd, 1) := by decide +kernel
theorem dX1_seen_50 : decode cX1_seen 50 = .ok (.istore_n 2, 1) := by decide +kernel
theorem dX1_seen_51 : decode cX1_seen 51 = .ok (.iinc 3 1, 3) := by decide +kernel
theorem dX1_seen_54 : decode cX1_seen 54 = .ok (.goto (-44), 3) := by decide +kernel
theorem dX1_seen_57 : decode cX1_seen 57 = .ok (.iload_n 2, 1) := by decide +kernel
theorem dX1_seen_58 : decode cX1_seen 58 = .ok (.ireturn, 1) := by decide +kernel
set_option maxRecDepth 20000 in
theorem ggX1_unfairness_X1_unfairnessBehind : GoodIn wsX1_unfairness wsX1_unfairnessBehind := goodIn_r _ [5, 6, 7, 8, 9, 10, 11, 12, 13, 14, 15, 16, 17, 18, 19, 20, 21, 22, 23, 24, 25, 26, 27, 28, 29, 30, 31, 32, 33, 34, 35, 36, 4, 37, 38, 39, 40, 41, 42, 43, 44, 45, 46, 47, 48, 49, 50, 51, 52, 53, 54, 55, 56, 57, 58, 59, 60, 61, 62, 63, 64, 65, 66, 67, 68, 69, 70, 71, 72, 73, 74, 75, 76, 77, 78, 79, 80, 81, 82, 83, 84, 85, 86, 87] (by decide +kernel) (by decide +kernel)
set_option maxRecDepth 20000 in
theorem gX1_unfairness_X1_unfairnessBehind : GoodIn wsX1_unfairness (wsV RX1 97 RX1 yX1_unfairnessBehind wsX1_unfairnessBehind) := goodIn_app (goodIn_of _ (by decide +kernel)) ggX1_unfairness_X1_unfairnessBehind
theorem dX1_unfairness_0 : decode cX1_unfairness 0 = .ok (.aload_n 0, 1) := by decide +kernel
theorem dX1_unfairness_1 : decode cX1_unfairness 1 = .ok (.iconst 0, 1) := by decide +kernel
theorem dX1_unfairness_2 : decode cX1_unfairness 2 = .ok (.invokevirtual 97, 3) := by decide +kernel
theorem dX1_unfairness_5 : decode cX1_unfairness 5 = .ok (.ireturn, 1) := by decide +kernel
set_option maxRecDepth 20000 in
theorem ggX1_together_Jx4a65c_size_8abf5 : GoodIn wsX1_together wsJx4a65c_size_8abf5 := goodIn_r _ [8, 9, 46, 47, 48] (by decide +kernel) (by decide +kernel)
set_option maxRecDepth 20000 in
theorem gX1_together_Jx4a65c_size_8abf5 : GoodIn wsX1_together (wsV RX1 27 RJx4a65c yJx4a65c_size_8abf5 wsJx4a65c_size_8abf5) := goodIn_app (goodIn_of _ (by decide +kernel)) ggX1_together_Jx4a65c_size_8abf5
set_option maxRecDepth 20000 in
theorem ggX1_together_Jx4a65c_get_915e3 : GoodIn wsX1_together wsJx4a65c_get_915e3 := goodIn_r _ [13, 9, 14, 15, 16, 17, 18, 19, 20, 21, 22, 23, 24, 7, 25, 26, 46, 47, 48] (by decide +kernel) (by decide +kernel)
set_option maxRecDepth 20000 in
theorem gX1_together_Jx4a65c_get_915e3 : GoodIn wsX1_together (wsV RX1 93 RJx4a65c yJx4a65c_get_915e3 wsJx4a65c_get_915e3) := goodIn_app (goodIn_of _ (by decide +kernel)) ggX1_together_Jx4a65c_get_915e3
set_option maxRecDepth 20000 in
theorem ggX1_together_X1_smallestMultiple : GoodIn wsX1_together wsX1_smallestMultiple := goodIn_r _ [30, 31, 32, 29, 33] (by decide +kernel) (by decide +kernel)
set_option maxRecDepth 20000 in
theorem gX1_together_X1_smallestMultiple : GoodIn wsX1_together (va_wsS RX1 100 yX1_smallestMultiple wsX1_smallestMultiple) := goodIn_app (goodIn_of _ (by decide +kernel)) ggX1_together_X1_smallestMultiple
theorem dX1_together_0 : decode cX1_together 0 = .ok (.lconst 1, 1) := by decide +kernel
theorem dX1_together_1 : decode cX1_together 1 = .ok (.lstore_n 1, 1) := by decide +kernel
theorem dX1_together_2 : decode cX1_together 2 = .ok (.iconst 0, 1) := by decide +kernel
theorem dX1_together_3 : decode cX1_together 3 = .ok (.istore_n 3, 1) := by decide +kernel
theorem dX1_together_4 : decode cX1_together 4 = .ok (.iload_n 3, 1) := by decide +kernel
theorem dX1_together_5 : decode cX1_together 5 = .ok (.aload_n 0, 1) := by decide +kernel
theorem dX1_together_6 : decode cX1_together 6 = .ok (.getfield 10, 3) := by decide +kernel
theorem dX1_together_9 : decode cX1_together 9 = .ok (.invokevirtual 27, 3) := by decide +kernel
theorem dX1_together_12 : decode cX1_together 12 = .ok (.if_icmp .ge 28, 3) := by decide +kernel
theorem dX1_together_15 : decode cX1_together 15 = .ok (.lload_n 1, 1) := by decide +kernel
theorem dX1_together_16 : decode cX1_together 16 = .ok (.aload_n 0, 1) := by decide +kernel
theorem dX1_together_17 : decode cX1_together 17 = .ok (.getfield 10, 3) := by decide +kernel
theorem dX1_together_20 : decode cX1_together 20 = .ok (.iload_n 3, 1) := by decide +kernel
theorem dX1_together_21 : decode cX1_together 21 = .ok (.invokevirtual 93, 3) := by decide +kernel
theorem dX1_together_24 : decode cX1_together 24 = .ok (.checkcast 38, 3) := by decide +kernel
theorem dX1_together_27 : decode cX1_together 27 = .ok (.getfield 51, 3) := by decide +kernel
theorem dX1_together_30 : decode cX1_together 30 = .ok (.invokestatic 100, 3) := by decide +kernel
theorem dX1_together_33 : decode cX1_together 33 = .ok (.lstore_n 1, 1) := by decide +kernel
theorem dX1_together_34 : decode cX1_together 34 = .ok (.iinc 3 1, 3) := by decide +kernel
theorem dX1_together_37 : decode cX1_together 37 = .ok (.goto (-33), 3) := by decide +kernel
theorem dX1_together_40 : decode cX1_together 40 = .ok (.lload_n 1, 1) := by decide +kernel
theorem dX1_together_41 : decode cX1_together 41 = .ok (.lreturn, 1) := by decide +kernel
set_option maxRecDepth 20000 in
theorem ggX1_meet_X1_lampAt : GoodIn wsX1_meet wsX1_lampAt := goodIn_ca (goodIn_r _ [6, 7, 8, 9, 10, 11, 12, 13, 14, 15, 16, 17, 18, 19, 20, 21, 22, 23, 24, 25, 26, 27, 28, 29, 30, 31, 32, 33, 53, 54, 55, 56, 57, 58] (by decide +kernel) (by decide +kernel)) (goodIn_sub (fun _ h => List.mem_cons_of_mem _ (List.mem_append_right _ h)) (by decide +kernel))
set_option maxRecDepth 20000 in
theorem gX1_meet_X1_lampAt : GoodIn wsX1_meet (wsV RX1 47 RX1 yX1_lampAt wsX1_lampAt) := goodIn_app (goodIn_of _ (by decide +kernel)) ggX1_meet_X1_lampAt
set_option maxRecDepth 20000 in
theorem ggX1_meet_X1_wouldMeet : GoodIn wsX1_meet wsX1_wouldMeet := goodIn_r _ [36, 37, 1, 38, 39, 5, 40, 41, 42, 43, 44, 45, 46, 47, 48, 49, 50, 51, 52] (by decide +kernel) (by decide +kernel)
set_option maxRecDepth 20000 in
theorem gX1_meet_X1_wouldMeet : GoodIn wsX1_meet (va_wsS RX1 108 yX1_wouldMeet wsX1_wouldMeet) := goodIn_app (goodIn_of _ (by decide +kernel)) ggX1_meet_X1_wouldMeet
theorem dX1_meet_0 : decode cX1_meet 0 = .ok (.aload_n 0, 1) := by decide +kernel
theorem dX1_meet_1 : decode cX1_meet 1 = .ok (.iload_n 1, 1) := by decide +kernel
theorem dX1_meet_2 : decode cX1_meet 2 = .ok (.invokevirtual 47, 3) := by decide +kernel
theorem dX1_meet_5 : decode cX1_meet 5 = .ok (.astore_n 3, 1) := by decide +kernel
theorem dX1_meet_6 : decode cX1_meet 6 = .ok (.aload_n 0, 1) := by decide +kernel
theorem dX1_meet_7 : decode cX1_meet 7 = .ok (.iload_n 2, 1) := by decide +kernel
theorem dX1_meet_8 : decode cX1_meet 8 = .ok (.invokevirtual 47, 3) := by decide +kernel
theorem dX1_meet_11 : decode cX1_meet 11 = .ok (.astore 4, 2) := by decide +kernel
theorem dX1_meet_13 : decode cX1_meet 13 = .ok (.aload_n 3, 1) := by decide +kernel
theorem dX1_meet_14 : decode cX1_meet 14 = .ok (.aload_n 3, 1) := by decide +kernel
theorem dX1_meet_15 : decode cX1_meet 15 = .ok (.getfield 54, 3) := by decide +kernel
theorem dX1_meet_18 : decode cX1_meet 18 = .ok (.aload 4, 2) := by decide +kernel
theorem dX1_meet_20 : decode cX1_meet 20 = .ok (.invokestatic 108, 3) := by decide +kernel
theorem dX1_meet_23 : decode cX1_meet 23 = .ok (.ireturn, 1) := by decide +kernel
set_option maxRecDepth 20000 in
theorem ggX1_beatsUntilMeet_X1_lampAt : GoodIn wsX1_beatsUntilMeet wsX1_lampAt := goodIn_ca (goodIn_r _ [7, 8, 9, 10, 11, 12, 13, 14, 15, 16, 17, 18, 19, 20, 21, 22, 23, 24, 25, 26, 27, 28, 29, 30, 31, 32, 33, 34, 50, 51, 52, 62, 63, 64] (by decide +kernel) (by decide +kernel)) (goodIn_sub (fun _ h => List.mem_cons_of_mem _ (List.mem_append_right _ h)) (by decide +kernel))
set_option maxRecDepth 20000 in
theorem gX1_beatsUntilMeet_X1_lampAt : GoodIn wsX1_beatsUntilMeet (wsV RX1 47 RX1 yX1_lampAt wsX1_lampAt) := goodIn_app (goodIn_of _ (by decide +kernel)) ggX1_beatsUntilMeet_X1_lampAt
set_option maxRecDepth 20000 in
theorem ggX1_beatsUntilMeet_X0_beatsUntilItLightsUp : GoodIn wsX1_beatsUntilMeet wsX0_beatsUntilItLightsUp := goodIn_r _ [39, 40, 41, 42, 43, 38, 44, 45, 53, 54, 55, 56, 57, 58, 59, 60, 61] (by decide +kernel) (by decide +kernel)
set_option maxRecDepth 20000 in
theorem gX1_beatsUntilMeet_X0_beatsUntilItLightsUp : GoodIn wsX1_beatsUntilMeet (wsV RX1 112 RX0 yX0_beatsUntilItLightsUp wsX0_beatsUntilItLightsUp) := goodIn_app (goodIn_of _ (by decide +kernel)) ggX1_beatsUntilMeet_X0_beatsUntilItLightsUp
set_option maxRecDepth 20000 in
theorem ggX1_beatsUntilMeet_X0_lightsUpAt : GoodIn wsX1_beatsUntilMeet wsX0_lightsUpAt := goodIn_r _ [49, 41, 42, 43, 38, 44, 40, 45, 53, 54, 55, 56, 57, 58, 59, 60, 61] (by decide +kernel) (by decide +kernel)
set_option maxRecDepth 20000 in
theorem gX1_beatsUntilMeet_X0_lightsUpAt : GoodIn wsX1_beatsUntilMeet (wsV RX1 115 RX0 yX0_lightsUpAt wsX0_lightsUpAt) := goodIn_app (goodIn_of _ (by decide +kernel)) ggX1_beatsUntilMeet_X0_lightsUpAt
theorem dX1_beatsUntilMeet_0 : decode cX1_beatsUntilMeet 0 = .ok (.aload_n 0, 1) := by decide +kernel
theorem dX1_beatsUntilMeet_1 : decode cX1_beatsUntilMeet 1 = .ok (.iload_n 1, 1) := by decide +kernel
theorem dX1_beatsUntilMeet_2 : decode cX1_beatsUntilMeet 2 = .ok (.invokevirtual 47, 3) := by decide +kernel
theorem dX1_beatsUntilMeet_5 : decode cX1_beatsUntilMeet 5 = .ok (.astore_n 3, 1) := by decide +kernel
theorem dX1_beatsUntilMeet_6 : decode cX1_beatsUntilMeet 6 = .ok (.aload_n 0, 1) := by decide +kernel
theorem dX1_beatsUntilMeet_7 : decode cX1_beatsUntilMeet 7 = .ok (.iload_n 2, 1) := by decide +kernel
theorem dX1_beatsUntilMeet_8 : decode cX1_beatsUntilMeet 8 = .ok (.invokevirtual 47, 3) := by decide +kernel
theorem dX1_beatsUntilMeet_11 : decode cX1_beatsUntilMeet 11 = .ok (.astore 4, 2) := by decide +kernel
theorem dX1_beatsUntilMeet_13 : decode cX1_beatsUntilMeet 13 = .ok (.aload_n 3, 1) := by decide +kernel
theorem dX1_beatsUntilMeet_14 : decode cX1_beatsUntilMeet 14 = .ok (.aload_n 0, 1) := by decide +kernel
theorem dX1_beatsUntilMeet_15 : decode cX1_beatsUntilMeet 15 = .ok (.getfield 16, 3) := by decide +kernel
theorem dX1_beatsUntilMeet_18 : decode cX1_beatsUntilMeet 18 = .ok (.invokevirtual 112, 3) := by decide +kernel
theorem dX1_beatsUntilMeet_21 : decode cX1_beatsUntilMeet 21 = .ok (.istore 5, 2) := by decide +kernel
theorem dX1_beatsUntilMeet_23 : decode cX1_beatsUntilMeet 23 = .ok (.iconst 0, 1) := by decide +kernel
theorem dX1_beatsUntilMeet_24 : decode cX1_beatsUntilMeet 24 = .ok (.istore 6, 2) := by decide +kernel
theorem dX1_beatsUntilMeet_26 : decode cX1_beatsUntilMeet 26 = .ok (.iload 6, 2) := by decide +kernel
theorem dX1_beatsUntilMeet_28 : decode cX1_beatsUntilMeet 28 = .ok (.aload 4, 2) := by decide +kernel
theorem dX1_beatsUntilMeet_30 : decode cX1_beatsUntilMeet 30 = .ok (.getfield 51, 3) := by decide +kernel
theorem dX1_beatsUntilMeet_33 : decode cX1_beatsUntilMeet 33 = .ok (.if_icmp .ge 36, 3) := by decide +kernel
theorem dX1_beatsUntilMeet_36 : decode cX1_beatsUntilMeet 36 = .ok (.aload 4, 2) := by decide +kernel
theorem dX1_beatsUntilMeet_38 : decode cX1_beatsUntilMeet 38 = .ok (.aload_n 0, 1) := by decide +kernel
theorem dX1_beatsUntilMeet_39 : decode cX1_beatsUntilMeet 39 = .ok (.getfield 16, 3) := by decide +kernel
theorem dX1_beatsUntilMeet_42 : decode cX1_beatsUntilMeet 42 = .ok (.iload 5, 2) := by decide +kernel
theorem dX1_beatsUntilMeet_44 : decode cX1_beatsUntilMeet 44 = .ok (.iadd, 1) := by decide +kernel
theorem dX1_beatsUntilMeet_45 : decode cX1_beatsUntilMeet 45 = .ok (.invokevirtual 115, 3) := by decide +kernel
theorem dX1_beatsUntilMeet_48 : decode cX1_beatsUntilMeet 48 = .ok (.ifCond .eq 6, 3) := by decide +kernel
theorem dX1_beatsUntilMeet_51 : decode cX1_beatsUntilMeet 51 = .ok (.iload 5, 2) := by decide +kernel
theorem dX1_beatsUntilMeet_53 : decode cX1_beatsUntilMeet 53 = .ok (.ireturn, 1) := by decide +kernel
theorem dX1_beatsUntilMeet_54 : decode cX1_beatsUntilMeet 54 = .ok (.iload 5, 2) := by decide +kernel
theorem dX1_beatsUntilMeet_56 : decode cX1_beatsUntilMeet 56 = .ok (.aload_n 3, 1) := by decide +kernel
theorem dX1_beatsUntilMeet_57 : decode cX1_beatsUntilMeet 57 = .ok (.getfield 51, 3) := by decide +kernel
theorem dX1_beatsUntilMeet_60 : decode cX1_beatsUntilMeet 60 = .ok (.iadd, 1) := by decide +kernel
theorem dX1_beatsUntilMeet_61 : decode cX1_beatsUntilMeet 61 = .ok (.istore 5, 2) := by decide +kernel
theorem dX1_beatsUntilMeet_63 : decode cX1_beatsUntilMeet 63 = .ok (.iinc 6 1, 3) := by decide +kernel
theorem dX1_beatsUntilMeet_66 : decode cX1_beatsUntilMeet 66 = .ok (.goto (-40), 3) := by decide +kernel
theorem dX1_beatsUntilMeet_69 : decode cX1_beatsUntilMeet 69 = .ok (.iconst (-1), 1) := by decide +kernel
theorem dX1_beatsUntilMeet_70 : decode cX1_beatsUntilMeet 70 = .ok (.ireturn, 1) := by decide +kernel
set_option maxRecDepth 20000 in
theorem ggX1_meets_X1_lampAt : GoodIn wsX1_meets wsX1_lampAt := goodIn_ca (goodIn_r _ [6, 7, 8, 9, 10, 11, 12, 13, 14, 15, 16, 17, 18, 19, 20, 21, 22, 23, 24, 25, 26, 27, 28, 29, 30, 31, 32, 33, 57, 58, 59, 60, 61, 62] (by decide +kernel) (by decide +kernel)) (goodIn_sub (fun _ h => List.mem_cons_of_mem _ (List.mem_append_right _ h)) (by decide +kernel))
set_option maxRecDepth 20000 in
theorem gX1_meets_X1_lampAt : GoodIn wsX1_meets (wsV RX1 47 RX1 yX1_lampAt wsX1_lampAt) := goodIn_app (goodIn_of _ (by decide +kernel)) ggX1_meets_X1_lampAt
set_option maxRecDepth 20000 in
theorem ggX1_meets_X1_countMet : GoodIn wsX1_meets wsX1_countMet := goodIn_r _ [37, 9, 10, 11, 12, 13, 14, 15, 16, 17, 18, 19, 20, 21, 22, 23, 24, 25, 26, 27, 28, 29, 30, 31, 32, 33, 38, 39, 5, 40, 41, 1, 42, 43, 44, 45, 46, 47, 57, 58, 59, 60, 61, 62, 48, 49, 50, 51, 52, 53, 54, 55, 56] (by decide +kernel) (by decide +kernel)
set_option maxRecDepth 20000 in
theorem gX1_meets_X1_countMet : GoodIn wsX1_meets (wsV RX1 118 RX1 yX1_countMet wsX1_countMet) := goodIn_app (goodIn_of _ (by decide +kernel)) ggX1_meets_X1_countMet
theorem dX1_meets_0 : decode cX1_meets 0 = .ok (.aload_n 0, 1) := by decide +kernel
theorem dX1_meets_1 : decode cX1_meets 1 = .ok (.iload_n 1, 1) := by decide +kernel
theorem dX1_meets_2 : decode cX1_meets 2 = .ok (.invokevirtual 47, 3) := by decide +kernel
theorem dX1_meets_5 : decode cX1_meets 5 = .ok (.astore_n 2, 1) := by decide +kernel
theorem dX1_meets_6 : decode cX1_meets 6 = .ok (.aload_n 0, 1) := by decide +kernel
theorem dX1_meets_7 : decode cX1_meets 7 = .ok (.aload_n 2, 1) := by decide +kernel
theorem dX1_meets_8 : decode cX1_meets 8 = .ok (.aload_n 2, 1) := by decide +kernel
theorem dX1_meets_9 : decode cX1_meets 9 = .ok (.getfield 54, 3) := by decide +kernel
theorem dX1_meets_12 : decode cX1_meets 12 = .ok (.invokevirtual 118, 3) := by decide +kernel
theorem dX1_meets_15 : decode cX1_meets 15 = .ok (.ireturn, 1) := by decide +kernel
set_option maxRecDepth 20000 in
theorem ggX1_apart_Jx4a65c_size_8abf5 : GoodIn wsX1_apart wsJx4a65c_size_8abf5 := goodIn_r _ [8, 9, 50, 51, 52] (by decide +kernel) (by decide +kernel)
set_option maxRecDepth 20000 in
theorem gX1_apart_Jx4a65c_size_8abf5 : GoodIn wsX1_apart (wsV RX1 27 RJx4a65c yJx4a65c_size_8abf5 wsJx4a65c_size_8abf5) := goodIn_app (goodIn_of _ (by decide +kernel)) ggX1_apart_Jx4a65c_size_8abf5
set_option maxRecDepth 20000 in
theorem ggX1_apart_Jx4a65c_get_915e3 : GoodIn wsX1_apart wsJx4a65c_get_915e3 := goodIn_r _ [13, 9, 14, 15, 16, 17, 18, 19, 20, 21, 22, 23, 24, 7, 25, 26, 50, 51, 52] (by decide +kernel) (by decide +kernel)
set_option maxRecDepth 20000 in
theorem gX1_apart_Jx4a65c_get_915e3 : GoodIn wsX1_apart (wsV RX1 93 RJx4a65c yJx4a65c_get_915e3 wsJx4a65c_get_915e3) := goodIn_app (goodIn_of _ (by decide +kernel)) ggX1_apart_Jx4a65c_get_915e3
set_option maxRecDepth 20000 in
theorem ggX1_apart_X1_wouldMeet : GoodIn wsX1_apart wsX1_wouldMeet := goodIn_r _ [30, 31, 3, 32, 33, 29, 34, 35, 36, 37, 41, 42, 43, 44, 45, 46, 47, 48, 49] (by decide +kernel) (by decide +kernel)
set_option maxRecDepth 20000 in
theorem gX1_apart_X1_wouldMeet : GoodIn wsX1_apart (va_wsS RX1 108 yX1_wouldMeet wsX1_wouldMeet) := goodIn_app (goodIn_of _ (by decide +kernel)) ggX1_apart_X1_wouldMeet
theorem dX1_apart_0 : decode cX1_apart 0 = .ok (.iconst 0, 1) := by decide +kernel
theorem dX1_apart_1 : decode cX1_apart 1 = .ok (.istore_n 1, 1) := by decide +kernel
theorem dX1_apart_2 : decode cX1_apart 2 = .ok (.iconst 0, 1) := by decide +kernel
theorem dX1_apart_3 : decode cX1_apart 3 = .ok (.istore_n 2, 1) := by decide +kernel
theorem dX1_apart_4 : decode cX1_apart 4 = .ok (.iload_n 2, 1) := by decide +kernel
theorem dX1_apart_5 : decode cX1_apart 5 = .ok (.aload_n 0, 1) := by decide +kernel
theorem dX1_apart_6 : decode cX1_apart 6 = .ok (.getfield 10, 3) := by decide +kernel
theorem dX1_apart_9 : decode cX1_apart 9 = .ok (.invokevirtual 27, 3) := by decide +kernel
theorem dX1_apart_12 : decode cX1_apart 12 = .ok (.if_icmp .ge 70, 3) := by decide +kernel
theorem dX1_apart_15 : decode cX1_apart 15 = .ok (.aload_n 0, 1) := by decide +kernel
theorem dX1_apart_16 : decode cX1_apart 16 = .ok (.getfield 10, 3) := by decide +kernel
theorem dX1_apart_19 : decode cX1_apart 19 = .ok (.iload_n 2, 1) := by decide +kernel
theorem dX1_apart_20 : decode cX1_apart 20 = .ok (.invokevirtual 93, 3) := by decide +kernel
theorem dX1_apart_23 : decode cX1_apart 23 = .ok (.checkcast 38, 3) := by decide +kernel
theorem dX1_apart_26 : decode cX1_apart 26 = .ok (.astore_n 3, 1) := by decide +kernel
theorem dX1_apart_27 : decode cX1_apart 27 = .ok (.iload_n 2, 1) := by decide +kernel
theorem dX1_apart_28 : decode cX1_apart 28 = .ok (.iconst 1, 1) := by decide +kernel
theorem dX1_apart_29 : decode cX1_apart 29 = .ok (.iadd, 1) := by decide +kernel
theorem dX1_apart_30 : decode cX1_apart 30 = .ok (.istore 4, 2) := by decide +kernel
theorem dX1_apart_32 : decode cX1_apart 32 = .ok (.iload 4, 2) := by decide +kernel
theorem dX1_apart_34 : decode cX1_apart 34 = .ok (.aload_n 0, 1) := by decide +kernel
theorem dX1_apart_35 : decode cX1_apart 35 = .ok (.getfield 10, 3) := by decide +kernel
theorem dX1_apart_38 : decode cX1_apart 38 = .ok (.invokevirtual 27, 3) := by decide +kernel
theorem dX1_apart_41 : decode cX1_apart 41 = .ok (.if_icmp .ge 35, 3) := by decide +kernel
theorem dX1_apart_44 : decode cX1_apart 44 = .ok (.aload_n 3, 1) := by decide +kernel
theorem dX1_apart_45 : decode cX1_apart 45 = .ok (.aload_n 3, 1) := by decide +kernel
theorem dX1_apart_46 : decode cX1_apart 46 = .ok (.getfield 54, 3) := by decide +kernel
theorem dX1_apart_49 : decode cX1_apart 49 = .ok (.aload_n 0, 1) := by decide +kernel
theorem dX1_apart_50 : decode cX1_apart 50 = .ok (.getfield 10, 3) := by decide +kernel
theorem dX1_apart_53 : decode cX1_apart 53 = .ok (.iload 4, 2) := by decide +kernel
theorem dX1_apart_55 : decode cX1_apart 55 = .ok (.invokevirtual 93, 3) := by decide +kernel
theorem dX1_apart_58 : decode cX1_apart 58 = .ok (.checkcast 38, 3) := by decide +kernel
theorem dX1_apart_61 : decode cX1_apart 61 = .ok (.invokestatic 108, 3) := by decide +kernel
theorem dX1_apart_64 : decode cX1_apart 64 = .ok (.ifCond .ne 6, 3) := by decide +kernel
theorem dX1_apart_67 : decode cX1_apart 67 = .ok (.iinc 1 1, 3) := by decide +kernel
theorem dX1_apart_70 : decode cX1_apart 70 = .ok (.iinc 4 1, 3) := by decide +kernel
theorem dX1_apart_73 : decode cX1_apart 73 = .ok (.goto (-41), 3) := by decide +kernel
theorem dX1_apart_76 : decode cX1_apart 76 = .ok (.iinc 2 1, 3) := by decide +kernel
theorem dX1_apart_79 : decode cX1_apart 79 = .ok (.goto (-75), 3) := by decide +kernel
theorem dX1_apart_82 : decode cX1_apart 82 = .ok (.iload_n 1, 1) := by decide +kernel
theorem dX1_apart_83 : decode cX1_apart 83 = .ok (.ireturn, 1) := by decide +kernel
set_option maxRecDepth 20000 in
theorem ggX1_bestShift_X1_lampAt : GoodIn wsX1_bestShift wsX1_lampAt := goodIn_ca (goodIn_r _ [6, 7, 8, 9, 10, 11, 12, 13, 14, 15, 16, 17, 18, 19, 20, 21, 22, 23, 24, 25, 26, 27, 28, 29, 30, 31, 32, 33, 57, 58, 59, 60, 61, 62] (by decide +kernel) (by decide +kernel)) (goodIn_sub (fun _ h => List.mem_cons_of_mem _ (List.mem_append_right _ h)) (by decide +kernel))
set_option maxRecDepth 20000 in
theorem gX1_bestShift_X1_lampAt : GoodIn wsX1_bestShift (wsV RX1 47 RX1 yX1_lampAt wsX1_lampAt) := goodIn_app (goodIn_of _ (by decide +kernel)) ggX1_bestShift_X1_lampAt
set_option maxRecDepth 20000 in
theorem ggX1_bestShift_X1_countMet : GoodIn wsX1_bestShift wsX1_countMet := goodIn_r _ [37, 9, 10, 11, 12, 13, 14, 15, 16, 17, 18, 19, 20, 21, 22, 23, 24, 25, 26, 27, 28, 29, 30, 31, 32, 33, 38, 39, 5, 40, 1, 41, 42, 43, 44, 45, 46, 47, 57, 58, 59, 60, 61, 62, 48, 49, 50, 51, 52, 53, 54, 55, 56] (by decide +kernel) (by decide +kernel)
set_option maxRecDepth 20000 in
theorem gX1_bestShift_X1_countMet : GoodIn wsX1_bestShift (wsV RX1 118 RX1 yX1_countMet wsX1_countMet) := goodIn_app (goodIn_of _ (by decide +kernel)) ggX1_bestShift_X1_countMet
theorem dX1_bestShift_0 : decode cX1_bestShift 0 = .ok (.aload_n 0, 1) := by decide +kernel
theorem dX1_bestShift_1 : decode cX1_bestShift 1 = .ok (.iload_n 1, 1) := by decide +kernel
theorem dX1_bestShift_2 : decode cX1_bestShift 2 = .ok (.invokevirtual 47, 3) := by decide +kernel
theorem dX1_bestShift_5 : decode cX1_bestShift 5 = .ok (.astore_n 2, 1) := by decide +kernel
theorem dX1_bestShift_6 : decode cX1_bestShift 6 = .ok (.iconst 0, 1) := by decide +kernel
theorem dX1_bestShift_7 : decode cX1_bestShift 7 = .ok (.istore_n 3, 1) := by decide +kernel
theorem dX1_bestShift_8 : decode cX1_bestShift 8 = .ok (.aload_n 0, 1) := by decide +kernel
theorem dX1_bestShift_9 : decode cX1_bestShift 9 = .ok (.aload_n 2, 1) := by decide +kernel
theorem dX1_bestShift_10 : decode cX1_bestShift 10 = .ok (.iconst 0, 1) := by decide +kernel
theorem dX1_bestShift_11 : decode cX1_bestShift 11 = .ok (.invokevirtual 118, 3) := by decide +kernel
theorem dX1_bestShift_14 : decode cX1_bestShift 14 = .ok (.istore 4, 2) := by decide +kernel
theorem dX1_bestShift_16 : decode cX1_bestShift 16 = .ok (.iconst 1, 1) := by decide +kernel
theorem dX1_bestShift_17 : decode cX1_bestShift 17 = .ok (.istore 5, 2) := by decide +kernel
theorem dX1_bestShift_19 : decode cX1_bestShift 19 = .ok (.iload 5, 2) := by decide +kernel
theorem dX1_bestShift_21 : decode cX1_bestShift 21 = .ok (.aload_n 2, 1) := by decide +kernel
theorem dX1_bestShift_22 : decode cX1_bestShift 22 = .ok (.getfield 51, 3) := by decide +kernel
theorem dX1_bestShift_25 : decode cX1_bestShift 25 = .ok (.if_icmp .ge 32, 3) := by decide +kernel
theorem dX1_bestShift_28 : decode cX1_bestShift 28 = .ok (.aload_n 0, 1) := by decide +kernel
theorem dX1_bestShift_29 : decode cX1_bestShift 29 = .ok (.aload_n 2, 1) := by decide +kernel
theorem dX1_bestShift_30 : decode cX1_bestShift 30 = .ok (.iload 5, 2) := by decide +kernel
theorem dX1_bestShift_32 : decode cX1_bestShift 32 = .ok (.invokevirtual 118, 3) := by decide +kernel
theorem dX1_bestShift_35 : decode cX1_bestShift 35 = .ok (.istore 6, 2) := by decide +kernel
theorem dX1_bestShift_37 : decode cX1_bestShift 37 = .ok (.iload 6, 2) := by decide +kernel
theorem dX1_bestShift_39 : decode cX1_bestShift 39 = .ok (.iload 4, 2) := by decide +kernel
theorem dX1_bestShift_41 : decode cX1_bestShift 41 = .ok (.if_icmp .ge 10, 3) := by decide +kernel
theorem dX1_bestShift_44 : decode cX1_bestShift 44 = .ok (.iload 6, 2) := by decide +kernel
theorem dX1_bestShift_46 : decode cX1_bestShift 46 = .ok (.istore 4, 2) := by decide +kernel
theorem dX1_bestShift_48 : decode cX1_bestShift 48 = .ok (.iload 5, 2) := by decide +kernel
theorem dX1_bestShift_50 : decode cX1_bestShift 50 = .ok (.istore_n 3, 1) := by decide +kernel
theorem dX1_bestShift_51 : decode cX1_bestShift 51 = .ok (.iinc 5 1, 3) := by decide +kernel
theorem dX1_bestShift_54 : decode cX1_bestShift 54 = .ok (.goto (-35), 3) := by decide +kernel
theorem dX1_bestShift_57 : decode cX1_bestShift 57 = .ok (.iload_n 3, 1) := by decide +kernel
theorem dX1_bestShift_58 : decode cX1_bestShift 58 = .ok (.ireturn, 1) := by decide +kernel
set_option maxRecDepth 20000 in
theorem ggX1_dueIn_X1_lampAt : GoodIn wsX1_dueIn wsX1_lampAt := goodIn_ca (goodIn_r _ [7, 8, 9, 10, 11, 12, 13, 14, 15, 16, 17, 18, 19, 20, 21, 22, 23, 24, 25, 26, 27, 28, 29, 30, 31, 32, 33, 34, 56, 57, 58, 59, 60, 61] (by decide +kernel) (by decide +kernel)) (goodIn_sub (fun _ h => List.mem_cons_of_mem _ (List.mem_append_left _ (List.mem_append_right _ h))) (by decide +kernel))
set_option maxRecDepth 20000 in
theorem gX1_dueIn_X1_lampAt : GoodIn wsX1_dueIn (wsV RX1 47 RX1 yX1_lampAt wsX1_lampAt) := goodIn_app (goodIn_of _ (by decide +kernel)) ggX1_dueIn_X1_lampAt
set_option maxRecDepth 20000 in
theorem ggX1_dueIn_X1_refuseOutside : GoodIn wsX1_dueIn wsX1_refuseOutside := goodIn_ca (goodIn_r _ [37, 38, 39] (by decide +kernel) (by decide +kernel)) (goodIn_sub (fun _ h => List.mem_cons_of_mem _ (List.mem_append_right _ h)) (by decide +kernel))
set_option maxRecDepth 20000 in
theorem gX1_dueIn_X1_refuseOutside : GoodIn wsX1_dueIn (va_wsS RX1 23 yX1_refuseOutside wsX1_refuseOutside) := goodIn_app (goodIn_of _ (by decide +kernel)) ggX1_dueIn_X1_refuseOutside
set_option maxRecDepth 20000 in
theorem ggX1_dueIn_X0_countDue : GoodIn wsX1_dueIn wsX0_countDue := goodIn_r _ [44, 45, 46, 47, 48, 49, 43, 50, 51, 52, 53, 54, 55, 62, 63, 64, 65, 66, 67, 68, 69, 70] (by decide +kernel) (by decide +kernel)
set_option maxRecDepth 20000 in
theorem gX1_dueIn_X0_countDue : GoodIn wsX1_dueIn (wsV RX1 123 RX0 yX0_countDue wsX0_countDue) := goodIn_app (goodIn_of _ (by decide +kernel)) ggX1_dueIn_X0_countDue
theorem dX1_dueIn_0 : decode cX1_dueIn 0 = .ok (.aload_n 0, 1) := by decide +kernel
theorem dX1_dueIn_1 : decode cX1_dueIn 1 = .ok (.iload_n 1, 1) := by decide +kernel
theorem dX1_dueIn_2 : decode cX1_dueIn 2 = .ok (.invokevirtual 47, 3) := by decide +kernel
theorem dX1_dueIn_5 : decode cX1_dueIn 5 = .ok (.astore_n 3, 1) := by decide +kernel
theorem dX1_dueIn_6 : decode cX1_dueIn 6 = .ok (.iload_n 2, 1) := by decide +kernel
theorem dX1_dueIn_7 : decode cX1_dueIn 7 = .ok (.iconst 1, 1) := by decide +kernel
theorem dX1_dueIn_8 : decode cX1_dueIn 8 = .ok (.ldc 122, 2) := by decide +kernel
theorem dX1_dueIn_10 : decode cX1_dueIn 10 = .ok (.invokestatic 23, 3) := by decide +kernel
theorem dX1_dueIn_13 : decode cX1_dueIn 13 = .ok (.aload_n 3, 1) := by decide +kernel
theorem dX1_dueIn_14 : decode cX1_dueIn 14 = .ok (.aload_n 0, 1) := by decide +kernel
theorem dX1_dueIn_15 : decode cX1_dueIn 15 = .ok (.getfield 16, 3) := by decide +kernel
theorem dX1_dueIn_18 : decode cX1_dueIn 18 = .ok (.iload_n 2, 1) := by decide +kernel
theorem dX1_dueIn_19 : decode cX1_dueIn 19 = .ok (.invokevirtual 123, 3) := by decide +kernel
theorem dX1_dueIn_22 : decode cX1_dueIn 22 = .ok (.ireturn, 1) := by decide +kernel
set_option maxRecDepth 20000 in
theorem ggX1_brightest_X1_refuseOutside : GoodIn wsX1_brightest wsX1_refuseOutside := goodIn_ca (goodIn_r _ [9, 10, 11] (by decide +kernel) (by decide +kernel)) (goodIn_sub (fun _ h => List.mem_cons_of_mem _ (List.mem_append_right _ h)) (by decide +kernel))
set_option maxRecDepth 20000 in
theorem gX1_brightest_X1_refuseOutside : GoodIn wsX1_brightest (va_wsS RX1 23 yX1_refuseOutside wsX1_refuseOutside) := goodIn_app (goodIn_of _ (by decide +kernel)) ggX1_brightest_X1_refuseOutside
set_option maxRecDepth 20000 in
theorem ggX1_brightest_X1_lightLamps : GoodIn wsX1_brightest wsX1_lightLamps := goodIn_r _ [15, 16, 17, 18, 19, 20, 21, 22, 23, 24, 25, 26, 27, 28, 29, 30, 31, 32, 33, 34, 35, 36, 37, 38, 39, 40, 41, 42, 43, 44, 45, 46, 47, 48, 49, 50, 51, 52, 53, 54, 55, 56, 57, 58, 59, 60, 61, 62, 63, 64, 65, 66, 67, 68, 69, 70] (by decide +kernel) (by decide +kernel)
set_option maxRecDepth 20000 in
theorem gX1_brightest_X1_lightLamps : GoodIn wsX1_brightest (wsV RX1 72 RX1 yX1_lightLamps wsX1_lightLamps) := goodIn_app (goodIn_of _ (by decide +kernel)) ggX1_brightest_X1_lightLamps
theorem dX1_brightest_0 : decode cX1_brightest 0 = .ok (.iload_n 1, 1) := by decide +kernel
theorem dX1_brightest_1 : decode cX1_brightest 1 = .ok (.iconst 1, 1) := by decide +kernel
theorem dX1_brightest_2 : decode cX1_brightest 2 = .ok (.sipush 200, 3) := by decide +kernel
theorem dX1_brightest_5 : decode cX1_brightest 5 = .ok (.invokestatic 23, 3) := by decide +kernel
theorem dX1_brightest_8 : decode cX1_brightest 8 = .ok (.iconst 0, 1) := by decide +kernel
theorem dX1_brightest_9 : decode cX1_brightest 9 = .ok (.istore_n 2, 1) := by decide +kernel
theorem dX1_brightest_10 : decode cX1_brightest 10 = .ok (.iconst 0, 1) := by decide +kernel
theorem dX1_brightest_11 : decode cX1_brightest 11 = .ok (.istore_n 3, 1) := by decide +kernel
theorem dX1_brightest_12 : decode cX1_brightest 12 = .ok (.iload_n 3, 1) := by decide +kernel
theorem dX1_brightest_13 : decode cX1_brightest 13 = .ok (.iload_n 1, 1) := by decide +kernel
theorem dX1_brightest_14 : decode cX1_brightest 14 = .ok (.if_icmp .ge 24, 3) := by decide +kernel
theorem dX1_brightest_17 : decode cX1_brightest 17 = .ok (.iload_n 2, 1) := by decide +kernel
theorem dX1_brightest_18 : decode cX1_brightest 18 = .ok (.aload_n 0, 1) := by decide +kernel
theorem dX1_brightest_19 : decode cX1_brightest 19 = .ok (.aload_n 0, 1) := by decide +kernel
theorem dX1_brightest_20 : decode cX1_brightest 20 = .ok (.getfield 16, 3) := by decide +kernel
theorem dX1_brightest_23 : decode cX1_brightest 23 = .ok (.iload_n 3, 1) := by decide +kernel
theorem dX1_brightest_24 : decode cX1_brightest 24 = .ok (.iadd, 1) := by decide +kernel
theorem dX1_brightest_25 : decode cX1_brightest 25 = .ok (.invokevirtual 72, 3) := by decide +kernel
theorem dX1_brightest_28 : decode cX1_brightest 28 = .ok (.invokestatic 126, 3) := by decide +kernel
theorem dX1_brightest_31 : decode cX1_brightest 31 = .ok (.istore_n 2, 1) := by decide +kernel
theorem dX1_brightest_32 : decode cX1_brightest 32 = .ok (.iinc 3 1, 3) := by decide +kernel
theorem dX1_brightest_35 : decode cX1_brightest 35 = .ok (.goto (-23), 3) := by decide +kernel
theorem dX1_brightest_38 : decode cX1_brightest 38 = .ok (.iload_n 2, 1) := by decide +kernel
theorem dX1_brightest_39 : decode cX1_brightest 39 = .ok (.ireturn, 1) := by decide +kernel
set_option maxRecDepth 20000 in
theorem ggX1_unfairnessIn_X1_refuseOutside : GoodIn wsX1_unfairnessIn wsX1_refuseOutside := goodIn_ca (goodIn_r _ [4, 5, 6] (by decide +kernel) (by decide +kernel)) (goodIn_sub (fun _ h => List.mem_cons_of_mem _ (List.mem_append_right _ h)) (by decide +kernel))
set_option maxRecDepth 20000 in
theorem gX1_unfairnessIn_X1_refuseOutside : GoodIn wsX1_unfairnessIn (va_wsS RX1 23 yX1_refuseOutside wsX1_refuseOutside) := goodIn_app (goodIn_of _ (by decide +kernel)) ggX1_unfairnessIn_X1_refuseOutside
set_option maxRecDepth 20000 in
theorem ggX1_unfairnessIn_X1_unfairnessBehind : GoodIn wsX1_unfairnessIn wsX1_unfairnessBehind := goodIn_r _ [10, 11, 12, 13, 14, 15, 16, 17, 18, 19, 20, 21, 22, 23, 24, 25, 26, 27, 28, 29, 30, 31, 32, 33, 34, 35, 36, 37, 38, 39, 40, 41, 3, 42, 43, 44, 45, 46, 47, 48, 49, 50, 51, 52, 53, 54, 55, 56, 57, 58, 59, 60, 61, 62, 63, 64, 65, 66, 67, 68, 69, 70, 71, 72, 73, 74, 75, 76, 77, 78, 79, 80, 81, 82, 83, 84, 85, 86, 87, 88, 89, 90, 91, 92] (by decide +kernel) (by decide +kernel)
set_option maxRecDepth 20000 in
theorem gX1_unfairnessIn_X1_unfairnessBehind : GoodIn wsX1_unfairnessIn (wsV RX1 97 RX1 yX1_unfairnessBehind wsX1_unfairnessBehind) := goodIn_app (goodIn_of _ (by decide +kernel)) ggX1_unfairnessIn_X1_unfairnessBehind
theorem dX1_unfairnessIn_0 : decode cX1_unfairnessIn 0 = .ok (.iload_n 1, 1) := by decide +kernel
theorem dX1_unfairnessIn_1 : decode cX1_unfairnessIn 1 = .ok (.iconst 1, 1) := by decide +kernel
theorem dX1_unfairnessIn_2 : decode cX1_unfairnessIn 2 = .ok (.sipush 200, 3) := by decide +kernel
theorem dX1_unfairnessIn_5 : decode cX1_unfairnessIn 5 = .ok (.invokestatic 23, 3) := by decide +kernel
theorem dX1_unfairnessIn_8 : decode cX1_unfairnessIn 8 = .ok (.aload_n 0, 1) := by decide +kernel
theorem dX1_unfairnessIn_9 : decode cX1_unfairnessIn 9 = .ok (.iload_n 1, 1) := by decide +kernel
theorem dX1_unfairnessIn_10 : decode cX1_unfairnessIn 10 = .ok (.invokevirtual 97, 3) := by decide +kernel
theorem dX1_unfairnessIn_13 : decode cX1_unfairnessIn 13 = .ok (.ireturn, 1) := by decide +kernel
set_option maxRecDepth 20000 in
theorem ggX1_limitWanted_X1_refuseOutside : GoodIn wsX1_limitWanted wsX1_refuseOutside := goodIn_ca (goodIn_r _ [9, 10, 11] (by decide +kernel) (by decide +kernel)) (goodIn_sub (fun _ h => List.mem_cons_of_mem _ (List.mem_append_right _ h)) (by decide +kernel))
set_option maxRecDepth 20000 in
theorem gX1_limitWanted_X1_refuseOutside : GoodIn wsX1_limitWanted (va_wsS RX1 23 yX1_refuseOutside wsX1_refuseOutside) := goodIn_app (goodIn_of _ (by decide +kernel)) ggX1_limitWanted_X1_refuseOutside
set_option maxRecDepth 20000 in
theorem ggX1_limitWanted_X1_duePower : GoodIn wsX1_limitWanted wsX1_duePower := goodIn_r _ [15, 16, 17, 18, 19, 20, 21, 22, 23, 24, 25, 26, 27, 28, 29, 30, 31, 32, 33, 34, 35, 36, 37, 38, 39, 40, 41, 42, 43, 44, 45, 46, 47, 48, 49, 50, 51, 52, 53, 54, 55, 56, 57, 58, 59, 60, 61, 62, 63, 64, 65, 66, 67, 68] (by decide +kernel) (by decide +kernel)
set_option maxRecDepth 20000 in
theorem gX1_limitWanted_X1_duePower : GoodIn wsX1_limitWanted (wsV RX1 131 RX1 yX1_duePower wsX1_duePower) := goodIn_app (goodIn_of _ (by decide +kernel)) ggX1_limitWanted_X1_duePower
theorem dX1_limitWanted_0 : decode cX1_limitWanted 0 = .ok (.iload_n 1, 1) := by decide +kernel
theorem dX1_limitWanted_1 : decode cX1_limitWanted 1 = .ok (.iconst 1, 1) := by decide +kernel
theorem dX1_limitWanted_2 : decode cX1_limitWanted 2 = .ok (.sipush 200, 3) := by decide +kernel
theorem dX1_limitWanted_5 : decode cX1_limitWanted 5 = .ok (.invokestatic 23, 3) := by decide +kernel
theorem dX1_limitWanted_8 : decode cX1_limitWanted 8 = .ok (.iconst 0, 1) := by decide +kernel
theorem dX1_limitWanted_9 : decode cX1_limitWanted 9 = .ok (.istore_n 2, 1) := by decide +kernel
theorem dX1_limitWanted_10 : decode cX1_limitWanted 10 = .ok (.iconst 0, 1) := by decide +kernel
theorem dX1_limitWanted_11 : decode cX1_limitWanted 11 = .ok (.istore_n 3, 1) := by decide +kernel
theorem dX1_limitWanted_12 : decode cX1_limitWanted 12 = .ok (.iload_n 3, 1) := by decide +kernel
theorem dX1_limitWanted_13 : decode cX1_limitWanted 13 = .ok (.iload_n 1, 1) := by decide +kernel
theorem dX1_limitWanted_14 : decode cX1_limitWanted 14 = .ok (.if_icmp .ge 24, 3) := by decide +kernel
theorem dX1_limitWanted_17 : decode cX1_limitWanted 17 = .ok (.iload_n 2, 1) := by decide +kernel
theorem dX1_limitWanted_18 : decode cX1_limitWanted 18 = .ok (.aload_n 0, 1) := by decide +kernel
theorem dX1_limitWanted_19 : decode cX1_limitWanted 19 = .ok (.aload_n 0, 1) := by decide +kernel
theorem dX1_limitWanted_20 : decode cX1_limitWanted 20 = .ok (.getfield 16, 3) := by decide +kernel
theorem dX1_limitWanted_23 : decode cX1_limitWanted 23 = .ok (.iload_n 3, 1) := by decide +kernel
theorem dX1_limitWanted_24 : decode cX1_limitWanted 24 = .ok (.iadd, 1) := by decide +kernel
theorem dX1_limitWanted_25 : decode cX1_limitWanted 25 = .ok (.invokevirtual 131, 3) := by decide +kernel
theorem dX1_limitWanted_28 : decode cX1_limitWanted 28 = .ok (.invokestatic 126, 3) := by decide +kernel
theorem dX1_limitWanted_31 : decode cX1_limitWanted 31 = .ok (.istore_n 2, 1) := by decide +kernel
theorem dX1_limitWanted_32 : decode cX1_limitWanted 32 = .ok (.iinc 3 1, 3) := by decide +kernel
theorem dX1_limitWanted_35 : decode cX1_limitWanted 35 = .ok (.goto (-23), 3) := by decide +kernel
theorem dX1_limitWanted_38 : decode cX1_limitWanted 38 = .ok (.iload_n 2, 1) := by decide +kernel
theorem dX1_limitWanted_39 : decode cX1_limitWanted 39 = .ok (.ireturn, 1) := by decide +kernel
set_option maxRecDepth 20000 in
theorem ggX1_meanShone_Jx4a65c_size_8abf5 : GoodIn wsX1_meanShone wsJx4a65c_size_8abf5 := goodIn_r _ [8, 9, 39, 40, 41] (by decide +kernel) (by decide +kernel)
set_option maxRecDepth 20000 in
theorem gX1_meanShone_Jx4a65c_size_8abf5 : GoodIn wsX1_meanShone (wsV RX1 27 RJx4a65c yJx4a65c_size_8abf5 wsJx4a65c_size_8abf5) := goodIn_app (goodIn_of _ (by decide +kernel)) ggX1_meanShone_Jx4a65c_size_8abf5
set_option maxRecDepth 20000 in
theorem ggX1_meanShone_Jx4a65c_get_915e3 : GoodIn wsX1_meanShone wsJx4a65c_get_915e3 := goodIn_r _ [13, 9, 14, 15, 16, 17, 18, 19, 20, 21, 22, 23, 24, 7, 25, 26, 39, 40, 41] (by decide +kernel) (by decide +kernel)
set_option maxRecDepth 20000 in
theorem gX1_meanShone_Jx4a65c_get_915e3 : GoodIn wsX1_meanShone (wsV RX1 93 RJx4a65c yJx4a65c_get_915e3 wsJx4a65c_get_915e3) := goodIn_app (goodIn_of _ (by decide +kernel)) ggX1_meanShone_Jx4a65c_get_915e3
theorem dX1_meanShone_0 : decode cX1_meanShone 0 = .ok (.aload_n 0, 1) := by decide +kernel
theorem dX1_meanShone_1 : decode cX1_meanShone 1 = .ok (.getfield 10, 3) := by decide +kernel
theorem dX1_meanShone_4 : decode cX1_meanShone 4 = .ok (.invokevirtual 27, 3) := by decide +kernel
theorem dX1_meanShone_7 : decode cX1_meanShone 7 = .ok (.istore_n 1, 1) := by decide +kernel
theorem dX1_meanShone_8 : decode cX1_meanShone 8 = .ok (.iload_n 1, 1) := by decide +kernel
theorem dX1_meanShone_9 : decode cX1_meanShone 9 = .ok (.iconst 1, 1) := by decide +kernel
theorem dX1_meanShone_10 : decode cX1_meanShone 10 = .ok (.if_icmp .ge 5, 3) := by decide +kernel
theorem dX1_meanShone_13 : decode cX1_meanShone 13 = .ok (.dconst 0, 1) := by decide +kernel
theorem dX1_meanShone_14 : decode cX1_meanShone 14 = .ok (.dreturn, 1) := by decide +kernel
theorem dX1_meanShone_15 : decode cX1_meanShone 15 = .ok (.iconst 0, 1) := by decide +kernel
theorem dX1_meanShone_16 : decode cX1_meanShone 16 = .ok (.istore_n 2, 1) := by decide +kernel
theorem dX1_meanShone_17 : decode cX1_meanShone 17 = .ok (.iconst 0, 1) := by decide +kernel
theorem dX1_meanShone_18 : decode cX1_meanShone 18 = .ok (.istore_n 3, 1) := by decide +kernel
theorem dX1_meanShone_19 : decode cX1_meanShone 19 = .ok (.iload_n 3, 1) := by decide +kernel
theorem dX1_meanShone_20 : decode cX1_meanShone 20 = .ok (.aload_n 0, 1) := by decide +kernel
theorem dX1_meanShone_21 : decode cX1_meanShone 21 = .ok (.getfield 10, 3) := by decide +kernel
theorem dX1_meanShone_24 : decode cX1_meanShone 24 = .ok (.invokevirtual 27, 3) := by decide +kernel
theorem dX1_meanShone_27 : decode cX1_meanShone 27 = .ok (.if_icmp .ge 26, 3) := by decide +kernel
theorem dX1_meanShone_30 : decode cX1_meanShone 30 = .ok (.iload_n 2, 1) := by decide +kernel
theorem dX1_meanShone_31 : decode cX1_meanShone 31 = .ok (.aload_n 0, 1) := by decide +kernel
theorem dX1_meanShone_32 : decode cX1_meanShone 32 = .ok (.getfield 10, 3) := by decide +kernel
theorem dX1_meanShone_35 : decode cX1_meanShone 35 = .ok (.iload_n 3, 1) := by decide +kernel
theorem dX1_meanShone_36 : decode cX1_meanShone 36 = .ok (.invokevirtual 93, 3) := by decide +kernel
theorem dX1_meanShone_39 : decode cX1_meanShone 39 = .ok (.checkcast 38, 3) := by decide +kernel
theorem dX1_meanShone_42 : decode cX1_meanShone 42 = .ok (.getfield 87, 3) := by decide +kernel
theorem dX1_meanShone_45 : decode cX1_meanShone 45 = .ok (.iadd, 1) := by decide +kernel
theorem dX1_meanShone_46 : decode cX1_meanShone 46 = .ok (.istore_n 2, 1) := by decide +kernel
theorem dX1_meanShone_47 : decode cX1_meanShone 47 = .ok (.iinc 3 1, 3) := by decide +kernel
theorem dX1_meanShone_50 : decode cX1_meanShone 50 = .ok (.goto (-31), 3) := by decide +kernel
theorem dX1_meanShone_53 : decode cX1_meanShone 53 = .ok (.iload_n 2, 1) := by decide +kernel
theorem dX1_meanShone_54 : decode cX1_meanShone 54 = .ok (.i2d, 1) := by decide +kernel
theorem dX1_meanShone_55 : decode cX1_meanShone 55 = .ok (.iload_n 1, 1) := by decide +kernel
theorem dX1_meanShone_56 : decode cX1_meanShone 56 = .ok (.i2d, 1) := by decide +kernel
theorem dX1_meanShone_57 : decode cX1_meanShone 57 = .ok (.ddiv, 1) := by decide +kernel
theorem dX1_meanShone_58 : decode cX1_meanShone 58 = .ok (.dreturn, 1) := by decide +kernel
set_option maxRecDepth 20000 in
theorem ggX1_digest_X1_beat : GoodIn wsX1_digest wsX1_beat := goodIn_r _ [7, 8, 205, 206, 207] (by decide +kernel) (by decide +kernel)
set_option maxRecDepth 20000 in
theorem gX1_digest_X1_beat : GoodIn wsX1_digest (wsV RX1 136 RX1 yX1_beat wsX1_beat) := goodIn_app (goodIn_of _ (by decide +kernel)) ggX1_digest_X1_beat
set_option maxRecDepth 20000 in
theorem ggX1_digest_X1_joined : GoodIn wsX1_digest wsX1_joined := goodIn_r _ [11, 12] (by decide +kernel) (by decide +kernel)
set_option maxRecDepth 20000 in
theorem gX1_digest_X1_joined : GoodIn wsX1_digest (va_wsS RX1 139 yX1_joined wsX1_joined) := goodIn_app (goodIn_of _ (by decide +kernel)) ggX1_digest_X1_joined
set_option maxRecDepth 20000 in
theorem ggX1_digest_X1_lamps : GoodIn wsX1_digest wsX1_lamps := goodIn_r _ [16, 2, 17, 18, 19, 20, 21, 22, 205, 206, 207, 208, 209, 210] (by decide +kernel) (by decide +kernel)
set_option maxRecDepth 20000 in
theorem gX1_digest_X1_lamps : GoodIn wsX1_digest (wsV RX1 143 RX1 yX1_lamps wsX1_lamps) := goodIn_app (goodIn_of _ (by decide +kernel)) ggX1_digest_X1_lamps
set_option maxRecDepth 20000 in
theorem ggX1_digest_X1_limit : GoodIn wsX1_digest wsX1_limit := goodIn_r _ [26, 27, 205, 206, 207] (by decide +kernel) (by decide +kernel)
set_option maxRecDepth 20000 in
theorem gX1_digest_X1_limit : GoodIn wsX1_digest (wsV RX1 146 RX1 yX1_limit wsX1_limit) := goodIn_app (goodIn_of _ (by decide +kernel)) ggX1_digest_X1_limit
set_option maxRecDepth 20000 in
theorem ggX1_digest_X1_power : GoodIn wsX1_digest wsX1_power := goodIn_r _ [31, 8, 32, 33, 34, 6, 35, 2, 36, 37, 27, 38, 17, 18, 19, 20, 21, 22, 39, 40, 41, 42, 43, 44, 45, 46, 47, 48, 49, 50, 51, 52, 53, 54, 55, 56, 57, 58, 59, 60, 61, 62, 63, 64, 65, 66, 67, 205, 206, 207, 211, 212, 213, 214, 215, 216, 217, 218, 219, 208, 209, 210] (by decide +kernel) (by decide +kernel)
set_option maxRecDepth 20000 in
theorem gX1_digest_X1_power : GoodIn wsX1_digest (wsV RX1 149 RX1 yX1_power wsX1_power) := goodIn_app (goodIn_of _ (by decide +kernel)) ggX1_digest_X1_power
set_option maxRecDepth 20000 in
theorem ggX1_digest_X1_unfairness : GoodIn wsX1_digest wsX1_unfairness := goodIn_r _ [71, 72, 73, 74, 6, 75, 2, 36, 76, 77, 8, 17, 18, 19, 20, 21, 22, 39, 40, 41, 42, 43, 44, 45, 46, 47, 48, 49, 50, 51, 52, 53, 54, 55, 78, 79, 80, 81, 38, 32, 33, 34, 35, 37, 27, 56, 57, 58, 59, 60, 61, 62, 63, 64, 65, 66, 67, 82, 83, 84, 85, 86, 87, 88, 89, 90, 91, 92, 93, 94, 95, 96, 97, 205, 206, 207, 211, 212, 213, 214, 215, 216, 217, 218, 219, 208, 209, 210] (by decide +kernel) (by decide +kernel)
set_option maxRecDepth 20000 in
theorem gX1_digest_X1_unfairness : GoodIn wsX1_digest (wsV RX1 152 RX1 yX1_unfairness wsX1_unfairness) := goodIn_app (goodIn_of _ (by decide +kernel)) ggX1_digest_X1_unfairness
set_option maxRecDepth 20000 in
theorem ggX1_digest_X1_together : GoodIn wsX1_digest wsX1_together := goodIn_r _ [101, 2, 36, 102, 17, 18, 19, 20, 21, 22, 39, 40, 41, 42, 43, 44, 45, 46, 47, 48, 49, 50, 51, 52, 53, 54, 55, 103, 104, 6, 105, 106, 107, 108, 205, 206, 207, 211, 212, 213, 214, 215, 216, 217, 218, 219, 208, 209, 210] (by decide +kernel) (by decide +kernel)
set_option maxRecDepth 20000 in
theorem gX1_digest_X1_together : GoodIn wsX1_digest (wsV RX1 155 RX1 yX1_together wsX1_together) := goodIn_app (goodIn_of _ (by decide +kernel)) ggX1_digest_X1_together
set_option maxRecDepth 20000 in
theorem ggX1_digest_X1_apart : GoodIn wsX1_digest wsX1_apart := goodIn_r _ [112, 2, 36, 113, 17, 18, 19, 20, 21, 22, 39, 40, 41, 42, 43, 44, 45, 46, 47, 48, 49, 50, 51, 52, 53, 54, 55, 114, 115, 6, 116, 102, 117, 118, 119, 106, 107, 108, 205, 206, 207, 211, 212, 213, 214, 215, 216, 217, 218, 219, 208, 209, 210] (by decide +kernel) (by decide +kernel)
set_option maxRecDepth 20000 in
theorem gX1_digest_X1_apart : GoodIn wsX1_digest (wsV RX1 159 RX1 yX1_apart wsX1_apart) := goodIn_app (goodIn_of _ (by decide +kernel)) ggX1_digest_X1_apart
set_option maxRecDepth 20000 in
theorem ggX1_digest_X1_brightest : GoodIn wsX1_digest wsX1_brightest := goodIn_ca (goodIn_r _ [123, 8, 86, 87, 88, 89, 124, 125, 6, 126, 127, 128, 32, 33, 34, 35, 2, 36, 37, 27, 38, 17, 18, 19, 20, 21, 22, 39, 40, 41, 42, 43, 44, 45, 46, 47, 48, 49, 50, 51, 52, 53, 54, 55, 56, 57, 58, 59, 60, 61, 62, 63, 64, 65, 66, 67, 205, 206, 207, 211, 212, 213, 214, 215, 216, 217, 218, 219, 208, 209, 210] (by decide +kernel) (by decide +kernel)) (goodIn_sub (fun _ h => List.mem_cons_of_mem _ (List.mem_append_left _ (List.mem_append_right _ h))) (by decide +kernel))
set_option maxRecDepth 20000 in
theorem gX1_digest_X1_brightest : GoodIn wsX1_digest (wsV RX1 162 RX1 yX1_brightest wsX1_brightest) := goodIn_app (goodIn_of _ (by decide +kernel)) ggX1_digest_X1_brightest
set_option maxRecDepth 20000 in
theorem ggX1_digest_X1_unfairnessIn : GoodIn wsX1_digest wsX1_unfairnessIn := goodIn_ca (goodIn_r _ [132, 124, 125, 6, 126, 127, 128, 72, 73, 74, 75, 2, 36, 76, 77, 8, 17, 18, 19, 20, 21, 22, 39, 40, 41, 42, 43, 44, 45, 46, 47, 48, 49, 50, 51, 52, 53, 54, 55, 78, 79, 80, 81, 38, 32, 33, 34, 35, 37, 27, 56, 57, 58, 59, 60, 61, 62, 63, 64, 65, 66, 67, 82, 83, 84, 85, 86, 87, 88, 89, 90, 91, 92, 93, 94, 95, 96, 97, 205, 206, 207, 211, 212, 213, 214, 215, 216, 217, 218, 219, 208, 209, 210] (by decide +kernel) (by decide +kernel)) (goodIn_sub (fun _ h => List.mem_cons_of_mem _ (List.mem_append_left _ (List.mem_append_right _ h))) (by decide +kernel))
set_option maxRecDepth 20000 in
theorem gX1_digest_X1_unfairnessIn : GoodIn wsX1_digest (wsV RX1 165 RX1 yX1_unfairnessIn wsX1_unfairnessIn) := goodIn_app (goodIn_of _ (by decide +kernel)) ggX1_digest_X1_unfairnessIn
set_option maxRecDepth 20000 in
theorem ggX1_digest_X1_limitWanted : GoodIn wsX1_digest wsX1_limitWanted := goodIn_ca (goodIn_r _ [136, 8, 86, 87, 88, 89, 124, 125, 6, 126, 127, 128, 137, 138, 139, 140, 2, 36, 37, 17, 18, 19, 20, 21, 22, 39, 40, 41, 42, 43, 44, 45, 46, 47, 48, 49, 50, 51, 52, 53, 54, 55, 56, 57, 58, 59, 60, 61, 62, 63, 64, 65, 66, 67, 205, 206, 207, 211, 212, 213, 214, 215, 216, 217, 218, 219, 208, 209, 210] (by decide +kernel) (by decide +kernel)) (goodIn_sub (fun _ h => List.mem_cons_of_mem _ (List.mem_append_left _ (List.mem_append_right _ h))) (by decide +kernel))
set_option maxRecDepth 20000 in
theorem gX1_digest_X1_limitWanted : GoodIn wsX1_digest (wsV RX1 168 RX1 yX1_limitWanted wsX1_limitWanted) := goodIn_app (goodIn_of _ (by decide +kernel)) ggX1_digest_X1_limitWanted
set_option maxRecDepth 20000 in
theorem ggX1_digest_Jx4a65c_size_8abf5 : GoodIn wsX1_digest wsJx4a65c_size_8abf5 := goodIn_r _ [21, 22, 208, 209, 210] (by decide +kernel) (by decide +kernel)
set_option maxRecDepth 20000 in
theorem gX1_digest_Jx4a65c_size_8abf5 : GoodIn wsX1_digest (wsV RX1 27 RJx4a65c yJx4a65c_size_8abf5 wsJx4a65c_size_8abf5) := goodIn_app (goodIn_of _ (by decide +kernel)) ggX1_digest_Jx4a65c_size_8abf5
set_option maxRecDepth 20000 in
theorem ggX1_digest_X1_joinedWithLamp : GoodIn wsX1_digest wsX1_joinedWithLamp := goodIn_ca (goodIn_r _ [144, 2, 145, 146, 147, 6, 148, 8, 149, 150, 151, 152, 153, 154, 36, 17, 18, 19, 20, 21, 22, 39, 40, 41, 42, 43, 44, 45, 46, 47, 48, 49, 50, 51, 52, 53, 54, 55, 155, 63, 64, 59, 65, 66, 67, 9, 10, 11, 12, 156, 157, 158, 159, 56, 57, 58, 60, 61, 62, 160, 161, 162, 163, 38, 32, 33, 34, 35, 37, 27, 164, 165, 166, 167, 97, 168, 169, 170, 171, 76, 172, 173, 174, 175, 176, 177, 178, 179, 180, 113, 181, 182, 183, 184, 114, 115, 116, 102, 117, 118, 119, 106, 107, 108, 185, 186, 187, 188, 189, 190, 191, 192, 193, 194, 195, 196, 197, 198, 199, 200, 205, 206, 207, 208, 209, 210, 211, 212, 213, 214, 215, 216, 217, 218, 219] (by decide +kernel) (by decide +kernel)) (goodIn_sub (fun _ h => List.mem_cons_of_mem _ (List.mem_append_right _ h)) (by decide +kernel))
set_option maxRecDepth 20000 in
theorem gX1_digest_X1_joinedWithLamp : GoodIn wsX1_digest (wsV RX1 171 RX1 yX1_joinedWithLamp wsX1_joinedWithLamp) := goodIn_app (goodIn_of _ (by decide +kernel)) ggX1_digest_X1_joinedWithLamp
set_option maxRecDepth 20000 in
theorem ggX1_digest_X1_seen : GoodIn wsX1_digest wsX1_seen := goodIn_ca (goodIn_r _ [204, 2, 36, 97, 76, 124, 125, 6, 126, 127, 128, 17, 18, 19, 20, 21, 22, 39, 40, 41, 42, 43, 44, 45, 46, 47, 48, 49, 50, 51, 52, 53, 54, 55, 205, 206, 207, 211, 212, 213, 214, 215, 216, 217, 218, 219, 208, 209, 210] (by decide +kernel) (by decide +kernel)) (goodIn_sub (fun _ h => List.mem_cons_of_mem _ (List.mem_append_left _ (List.mem_append_right _ h))) (by decide +kernel))
set_option maxRecDepth 20000 in
theorem gX1_digest_X1_seen : GoodIn wsX1_digest (wsV RX1 174 RX1 yX1_seen wsX1_seen) := goodIn_app (goodIn_of _ (by decide +kernel)) ggX1_digest_X1_seen
theorem dX1_digest_0 : decode cX1_digest 0 = .ok (.ldc2_w 134, 3) := by decide +kernel
theorem dX1_digest_3 : decode cX1_digest 3 = .ok (.lstore_n 1, 1) := by decide +kernel
theorem dX1_digest_4 : decode cX1_digest 4 = .ok (.lload_n 1, 1) := by decide +kernel
theorem dX1_digest_5 : decode cX1_digest 5 = .ok (.aload_n 0, 1) := by decide +kernel
theorem dX1_digest_6 : decode cX1_digest 6 = .ok (.invokevirtual 136, 3) := by decide +kernel
theorem dX1_digest_9 : decode cX1_digest 9 = .ok (.i2l, 1) := by decide +kernel
theorem dX1_digest_10 : decode cX1_digest 10 = .ok (.invokestatic 139, 3) := by decide +kernel
theorem dX1_digest_13 : decode cX1_digest 13 = .ok (.lstore_n 1, 1) := by decide +kernel
theorem dX1_digest_14 : decode cX1_digest 14 = .ok (.lload_n 1, 1) := by decide +kernel
theorem dX1_digest_15 : decode cX1_digest 15 = .ok (.aload_n 0, 1) := by decide +kernel
theorem dX1_digest_16 : decode cX1_digest 16 = .ok (.invokevirtual 143, 3) := by decide +kernel
theorem dX1_digest_19 : decode cX1_digest 19 = .ok (.i2l, 1) := by decide +kernel
theorem dX1_digest_20 : decode cX1_digest 20 = .ok (.invokestatic 139, 3) := by decide +kernel
theorem dX1_digest_23 : decode cX1_digest 23 = .ok (.lstore_n 1, 1) := by decide +kernel
theorem dX1_digest_24 : decode cX1_digest 24 = .ok (.lload_n 1, 1) := by decide +kernel
theorem dX1_digest_25 : decode cX1_digest 25 = .ok (.aload_n 0, 1) := by decide +kernel
theorem dX1_digest_26 : decode cX1_digest 26 = .ok (.invokevirtual 146, 3) := by decide +kernel
theorem dX1_digest_29 : decode cX1_digest 29 = .ok (.i2l, 1) := by decide +kernel
theorem dX1_digest_30 : decode cX1_digest 30 = .ok (.invokestatic 139, 3) := by decide +kernel
theorem dX1_digest_33 : decode cX1_digest 33 = .ok (.lstore_n 1, 1) := by decide +kernel
theorem dX1_digest_34 : decode cX1_digest 34 = .ok (.lload_n 1, 1) := by decide +kernel
theorem dX1_digest_35 : decode cX1_digest 35 = .ok (.aload_n 0, 1) := by decide +kernel
theorem dX1_digest_36 : decode cX1_digest 36 = .ok (.invokevirtual 149, 3) := by decide +kernel
theorem dX1_digest_39 : decode cX1_digest 39 = .ok (.i2l, 1) := by decide +kernel
theorem dX1_digest_40 : decode cX1_digest 40 = .ok (.invokestatic 139, 3) := by decide +kernel
theorem dX1_digest_43 : decode cX1_digest 43 = .ok (.lstore_n 1, 1) := by decide +kernel
theorem dX1_digest_44 : decode cX1_digest 44 = .ok (.lload_n 1, 1) := by decide +kernel
theorem dX1_digest_45 : decode cX1_digest 45 = .ok (.aload_n 0, 1) := by decide +kernel
theorem dX1_digest_46 : decode cX1_digest 46 = .ok (.invokevirtual 152, 3) := by decide +kernel
theorem dX1_digest_49 : decode cX1_digest 49 = .ok (.i2l, 1) := by decide +kernel
theorem dX1_digest_50 : decode cX1_digest 50 = .ok (.invokestatic 139, 3) := by decide +kernel
theorem dX1_digest_53 : decode cX1_digest 53 = .ok (.lstore_n 1, 1) := by decide +kernel
theorem dX1_digest_54 : decode cX1_digest 54 = .ok (.lload_n 1, 1) := by decide +kernel
theorem dX1_digest_55 : decode cX1_digest 55 = .ok (.aload_n 0, 1) := by decide +kernel
theorem dX1_digest_56 : decode cX1_digest 56 = .ok (.invokevirtual 155, 3) := by decide +kernel
theorem dX1_digest_59 : decode cX1_digest 59 = .ok (.invokestatic 139, 3) := by decide +kernel
theorem dX1_digest_62 : decode cX1_digest 62 = .ok (.lstore_n 1, 1) := by decide +kernel
theorem dX1_digest_63 : decode cX1_digest 63 = .ok (.lload_n 1, 1) := by decide +kernel
theorem dX1_digest_64 : decode cX1_digest 64 = .ok (.aload_n 0, 1) := by decide +kernel
theorem dX1_digest_65 : decode cX1_digest 65 = .ok (.invokevirtual 159, 3) := by decide +kernel
theorem dX1_digest_68 : decode cX1_digest 68 = .ok (.i2l, 1) := by decide +kernel
theorem dX1_digest_69 : decode cX1_digest 69 = .ok (.invokestatic 139, 3) := by decide +kernel
theorem dX1_digest_72 : decode cX1_digest 72 = .ok (.lstore_n 1, 1) := by decide +kernel
theorem dX1_digest_73 : decode cX1_digest 73 = .ok (.lload_n 1, 1) := by decide +kernel
theorem dX1_digest_74 : decode cX1_digest 74 = .ok (.aload_n 0, 1) := by decide +kernel
theorem dX1_digest_75 : decode cX1_digest 75 = .ok (.bipush 12, 2) := by decide +kernel
theorem dX1_digest_77 : decode cX1_digest 77 = .ok (.invokevirtual 162, 3) := by decide +kernel
theorem dX1_digest_80 : decode cX1_digest 80 = .ok (.i2l, 1) := by decide +kernel
theorem dX1_digest_81 : decode cX1_digest 81 = .ok (.invokestatic 139, 3) := by decide +kernel
theorem dX1_digest_84 : decode cX1_digest 84 = .ok (.lstore_n 1, 1) := by decide +kernel
theorem dX1_digest_85 : decode cX1_digest 85 = .ok (.lload_n 1, 1) := by decide +kernel
theorem dX1_digest_86 : decode cX1_digest 86 = .ok (.aload_n 0, 1) := by decide +kernel
theorem dX1_digest_87 : decode cX1_digest 87 = .ok (.bipush 12, 2) := by decide +kernel
theorem dX1_digest_89 : decode cX1_digest 89 = .ok (.invokevirtual 165, 3) := by decide +kernel
theorem dX1_digest_92 : decode cX1_digest 92 = .ok (.i2l, 1) := by decide +kernel
theorem dX1_digest_93 : decode cX1_digest 93 = .ok (.invokestatic 139, 3) := by decide +kernel
theorem dX1_digest_96 : decode cX1_digest 96 = .ok (.lstore_n 1, 1) := by decide +kernel
theorem dX1_digest_97 : decode cX1_digest 97 = .ok (.lload_n 1, 1) := by decide +kernel
theorem dX1_digest_98 : decode cX1_digest 98 = .ok (.aload_n 0, 1) := by decide +kernel
theorem dX1_digest_99 : decode cX1_digest 99 = .ok (.bipush 12, 2) := by decide +kernel
theorem dX1_digest_101 : decode cX1_digest 101 = .ok (.invokevirtual 168, 3) := by decide +kernel
theorem dX1_digest_104 : decode cX1_digest 104 = .ok (.i2l, 1) := by decide +kernel
theorem dX1_digest_105 : decode cX1_digest 105 = .ok (.invokestatic 139, 3) := by decide +kernel
theorem dX1_digest_108 : decode cX1_digest 108 = .ok (.lstore_n 1, 1) := by decide +kernel
theorem dX1_digest_109 : decode cX1_digest 109 = .ok (.iconst 0, 1) := by decide +kernel
theorem dX1_digest_110 : decode cX1_digest 110 = .ok (.istore_n 3, 1) := by decide +kernel
theorem dX1_digest_111 : decode cX1_digest 111 = .ok (.iload_n 3, 1) := by decide +kernel
theorem dX1_digest_112 : decode cX1_digest 112 = .ok (.aload_n 0, 1) := by decide +kernel
theorem dX1_digest_113 : decode cX1_digest 113 = .ok (.getfield 10, 3) := by decide +kernel
theorem dX1_digest_116 : decode cX1_digest 116 = .ok (.invokevirtual 27, 3) := by decide +kernel
theorem dX1_digest_119 : decode cX1_digest 119 = .ok (.if_icmp .ge 16, 3) := by decide +kernel
theorem dX1_digest_122 : decode cX1_digest 122 = .ok (.aload_n 0, 1) := by decide +kernel
theorem dX1_digest_123 : decode cX1_digest 123 = .ok (.lload_n 1, 1) := by decide +kernel
theorem dX1_digest_124 : decode cX1_digest 124 = .ok (.iload_n 3, 1) := by decide +kernel
theorem dX1_digest_125 : decode cX1_digest 125 = .ok (.invokevirtual 171, 3) := by decide +kernel
theorem dX1_digest_128 : decode cX1_digest 128 = .ok (.lstore_n 1, 1) := by decide +kernel
theorem dX1_digest_129 : decode cX1_digest 129 = .ok (.iinc 3 1, 3) := by decide +kernel
theorem dX1_digest_132 : decode cX1_digest 132 = .ok (.goto (-21), 3) := by decide +kernel
theorem dX1_digest_135 : decode cX1_digest 135 = .ok (.iconst 0, 1) := by decide +kernel
theorem dX1_digest_136 : decode cX1_digest 136 = .ok (.istore_n 3, 1) := by decide +kernel
theorem dX1_digest_137 : decode cX1_digest 137 = .ok (.iload_n 3, 1) := by decide +kernel
theorem dX1_digest_138 : decode cX1_digest 138 = .ok (.bipush 6, 2) := by decide +kernel
theorem dX1_digest_140 : decode cX1_digest 140 = .ok (.if_icmp .ge 20, 3) := by decide +kernel
theorem dX1_digest_143 : decode cX1_digest 143 = .ok (.lload_n 1, 1) := by decide +kernel
theorem dX1_digest_144 : decode cX1_digest 144 = .ok (.aload_n 0, 1) := by decide +kernel
theorem dX1_digest_145 : decode cX1_digest 145 = .ok (.iload_n 3, 1) := by decide +kernel
theorem dX1_digest_146 : decode cX1_digest 146 = .ok (.invokevirtual 174, 3) := by decide +kernel
theorem dX1_digest_149 : decode cX1_digest 149 = .ok (.i2l, 1) := by decide +kernel
theorem dX1_digest_150 : decode cX1_digest 150 = .ok (.invokestatic 139, 3) := by decide +kernel
theorem dX1_digest_153 : decode cX1_digest 153 = .ok (.lstore_n 1, 1) := by decide +kernel
theorem dX1_digest_154 : decode cX1_digest 154 = .ok (.iinc 3 1, 3) := by decide +kernel
theorem dX1_digest_157 : decode cX1_digest 157 = .ok (.goto (-20), 3) := by decide +kernel
theorem dX1_digest_160 : decode cX1_digest 160 = .ok (.lload_n 1, 1) := by decide +kernel
theorem dX1_digest_161 : decode cX1_digest 161 = .ok (.lreturn, 1) := by decide +kernel
theorem dX1_refuseOutside_0 : decode cX1_refuseOutside 0 = .ok (.iload_n 0, 1) := by decide +kernel
theorem dX1_refuseOutside_1 : decode cX1_refuseOutside 1 = .ok (.iload_n 1, 1) := by decide +kernel
theorem dX1_refuseOutside_2 : decode cX1_refuseOutside 2 = .ok (.if_icmp .lt 8, 3) := by decide +kernel
theorem dX1_refuseOutside_5 : decode cX1_refuseOutside 5 = .ok (.iload_n 0, 1) := by decide +kernel
theorem dX1_refuseOutside_6 : decode cX1_refuseOutside 6 = .ok (.iload_n 2, 1) := by decide +kernel
theorem dX1_refuseOutside_7 : decode cX1_refuseOutside 7 = .ok (.if_icmp .le 13, 3) := by decide +kernel
theorem dX1_refuseOutside_10 : decode cX1_refuseOutside 10 = .ok (.new 60, 3) := by decide +kernel
theorem dX1_refuseOutside_13 : decode cX1_refuseOutside 13 = .ok (.dup, 1) := by decide +kernel
theorem dX1_refuseOutside_14 : decode cX1_refuseOutside 14 = .ok (.ldc 177, 2) := by decide +kernel
theorem dX1_refuseOutside_16 : decode cX1_refuseOutside 16 = .ok (.invokespecial 64, 3) := by decide +kernel
theorem dX1_refuseOutside_19 : decode cX1_refuseOutside 19 = .ok (.athrow, 1) := by decide +kernel
theorem dX1_refuseOutside_20 : decode cX1_refuseOutside 20 = .ok (.return_, 1) := by decide +kernel
set_option maxRecDepth 20000 in
theorem ggX1_lampAt_Jx4a65c_size_8abf5 : GoodIn wsX1_lampAt wsJx4a65c_size_8abf5 := goodIn_r _ [9, 10, 31, 32, 33] (by decide +kernel) (by decide +kernel)
set_option maxRecDepth 20000 in
theorem gX1_lampAt_Jx4a65c_size_8abf5 : GoodIn wsX1_lampAt (wsV RX1 27 RJx4a65c yJx4a65c_size_8abf5 wsJx4a65c_size_8abf5) := goodIn_app (goodIn_of _ (by decide +kernel)) ggX1_lampAt_Jx4a65c_size_8abf5
set_option maxRecDepth 20000 in
theorem ggX1_lampAt_Jx4a65c_get_915e3 : GoodIn wsX1_lampAt wsJx4a65c_get_915e3 := goodIn_r _ [14, 10, 15, 16, 17, 18, 19, 20, 21, 22, 23, 24, 25, 8, 26, 27, 31, 32, 33] (by decide +kernel) (by decide +kernel)
set_option maxRecDepth 20000 in
theorem gX1_lampAt_Jx4a65c_get_915e3 : GoodIn wsX1_lampAt (wsV RX1 93 RJx4a65c yJx4a65c_get_915e3 wsJx4a65c_get_915e3) := goodIn_app (goodIn_of _ (by decide +kernel)) ggX1_lampAt_Jx4a65c_get_915e3
theorem dX1_lampAt_0 : decode cX1_lampAt 0 = .ok (.iload_n 1, 1) := by decide +kernel
theorem dX1_lampAt_1 : decode cX1_lampAt 1 = .ok (.ifCond .lt 14, 3) := by decide +kernel
theorem dX1_lampAt_4 : decode cX1_lampAt 4 = .ok (.iload_n 1, 1) := by decide +kernel
theorem dX1_lampAt_5 : decode cX1_lampAt 5 = .ok (.aload_n 0, 1) := by decide +kernel
theorem dX1_lampAt_6 : decode cX1_lampAt 6 = .ok (.getfield 10, 3) := by decide +kernel
theorem dX1_lampAt_9 : decode cX1_lampAt 9 = .ok (.invokevirtual 27, 3) := by decide +kernel
theorem dX1_lampAt_12 : decode cX1_lampAt 12 = .ok (.if_icmp .lt 13, 3) := by decide +kernel
theorem dX1_lampAt_15 : decode cX1_lampAt 15 = .ok (.new 179, 3) := by decide +kernel
theorem dX1_lampAt_18 : decode cX1_lampAt 18 = .ok (.dup, 1) := by decide +kernel
theorem dX1_lampAt_19 : decode cX1_lampAt 19 = .ok (.ldc 181, 2) := by decide +kernel
theorem dX1_lampAt_21 : decode cX1_lampAt 21 = .ok (.invokespecial 183, 3) := by decide +kernel
theorem dX1_lampAt_24 : decode cX1_lampAt 24 = .ok (.athrow, 1) := by decide +kernel
theorem dX1_lampAt_25 : decode cX1_lampAt 25 = .ok (.aload_n 0, 1) := by decide +kernel
theorem dX1_lampAt_26 : decode cX1_lampAt 26 = .ok (.getfield 10, 3) := by decide +kernel
theorem dX1_lampAt_29 : decode cX1_lampAt 29 = .ok (.iload_n 1, 1) := by decide +kernel
theorem dX1_lampAt_30 : decode cX1_lampAt 30 = .ok (.invokevirtual 93, 3) := by decide +kernel
theorem dX1_lampAt_33 : decode cX1_lampAt 33 = .ok (.checkcast 38, 3) := by decide +kernel
theorem dX1_lampAt_36 : decode cX1_lampAt 36 = .ok (.areturn, 1) := by decide +kernel
set_option maxRecDepth 20000 in
theorem ggX1_lightLamps_Jx4a65c_size_8abf5 : GoodIn wsX1_lightLamps wsJx4a65c_size_8abf5 := goodIn_r _ [10, 11, 53, 54, 55] (by decide +kernel) (by decide +kernel)
set_option maxRecDepth 20000 in
theorem gX1_lightLamps_Jx4a65c_size_8abf5 : GoodIn wsX1_lightLamps (wsV RX1 27 RJx4a65c yJx4a65c_size_8abf5 wsJx4a65c_size_8abf5) := goodIn_app (goodIn_of _ (by decide +kernel)) ggX1_lightLamps_Jx4a65c_size_8abf5
set_option maxRecDepth 20000 in
theorem ggX1_lightLamps_Jx4a65c_get_915e3 : GoodIn wsX1_lightLamps wsJx4a65c_get_915e3 := goodIn_r _ [15, 11, 16, 17, 18, 19, 20, 21, 22, 23, 24, 25, 26, 9, 27, 28, 53, 54, 55] (by decide +kernel) (by decide +kernel)
set_option maxRecDepth 20000 in
theorem gX1_lightLamps_Jx4a65c_get_915e3 : GoodIn wsX1_lightLamps (wsV RX1 93 RJx4a65c yJx4a65c_get_915e3 wsJx4a65c_get_915e3) := goodIn_app (goodIn_of _ (by decide +kernel)) ggX1_lightLamps_Jx4a65c_get_915e3
set_option maxRecDepth 20000 in
theorem ggX1_lightLamps_X0_dueAt : GoodIn wsX1_lightLamps wsX0_dueAt := goodIn_r _ [33, 34, 35, 36, 37, 32, 38, 39, 40, 44, 45, 46, 47, 48, 49, 50, 51, 52] (by decide +kernel) (by decide +kernel)
set_option maxRecDepth 20000 in
theorem gX1_lightLamps_X0_dueAt : GoodIn wsX1_lightLamps (wsV RX1 79 RX0 yX0_dueAt wsX0_dueAt) := goodIn_app (goodIn_of _ (by decide +kernel)) ggX1_lightLamps_X0_dueAt
theorem dX1_lightLamps_0 : decode cX1_lightLamps 0 = .ok (.iconst 0, 1) := by decide +kernel
theorem dX1_lightLamps_1 : decode cX1_lightLamps 1 = .ok (.istore_n 2, 1) := by decide +kernel
theorem dX1_lightLamps_2 : decode cX1_lightLamps 2 = .ok (.iconst 0, 1) := by decide +kernel
