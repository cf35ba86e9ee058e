set_option maxRecDepth 20000 in
theorem ggX0_init_X1_init : GoodIn wsX0_init wsX1_init := goodIn_r _ [13, 14, 2, 3, 9, 15, 16, 17, 18, 19, 20, 21, 22, 23, 24, 25, 26, 27, 28, 29, 30, 31, 32, 33, 34, 35, 40, 41] (by decide +kernel) (by decide +kernel)
set_option maxRecDepth 20000 in
theorem gX0_init_X1_init_n11 : GoodIn wsX0_init (wsX1_init) := ggX0_init_X1_init
theorem dX0_init_0 : decode cX0_init 0 = .ok (.aload_n 0, 1) := by decide +kernel
theorem dX0_init_1 : decode cX0_init 1 = .ok (.invokespecial 3, 3) := by decide +kernel
theorem dX0_init_4 : decode cX0_init 4 = .ok (.aload_n 0, 1) := by decide +kernel
theorem dX0_init_5 : decode cX0_init 5 = .ok (.new 9, 3) := by decide +kernel
theorem dX0_init_8 : decode cX0_init 8 = .ok (.dup, 1) := by decide +kernel
theorem dX0_init_9 : decode cX0_init 9 = .ok (.invokespecial 11, 3) := by decide +kernel
theorem dX0_init_12 : decode cX0_init 12 = .ok (.putfield 12, 3) := by decide +kernel
theorem dX0_init_15 : decode cX0_init 15 = .ok (.aload_n 0, 1) := by decide +kernel
theorem dX0_init_16 : decode cX0_init 16 = .ok (.new 9, 3) := by decide +kernel
theorem dX0_init_19 : decode cX0_init 19 = .ok (.dup, 1) := by decide +kernel
theorem dX0_init_20 : decode cX0_init 20 = .ok (.invokespecial 11, 3) := by decide +kernel
theorem dX0_init_23 : decode cX0_init 23 = .ok (.putfield 18, 3) := by decide +kernel
theorem dX0_init_26 : decode cX0_init 26 = .ok (.aload_n 0, 1) := by decide +kernel
theorem dX0_init_27 : decode cX0_init 27 = .ok (.bipush 40, 2) := by decide +kernel
theorem dX0_init_29 : decode cX0_init 29 = .ok (.newarray .int, 2) := by decide +kernel
theorem dX0_init_31 : decode cX0_init 31 = .ok (.putfield 21, 3) := by decide +kernel
theorem dX0_init_34 : decode cX0_init 34 = .ok (.aload_n 0, 1) := by decide +kernel
theorem dX0_init_35 : decode cX0_init 35 = .ok (.bipush 40, 2) := by decide +kernel
theorem dX0_init_37 : decode cX0_init 37 = .ok (.newarray .int, 2) := by decide +kernel
theorem dX0_init_39 : decode cX0_init 39 = .ok (.putfield 25, 3) := by decide +kernel
theorem dX0_init_42 : decode cX0_init 42 = .ok (.return_, 1) := by decide +kernel
set_option maxRecDepth 20000 in
theorem ggX1_init_X7_init : GoodIn wsX1_init wsX7_init := goodIn_r _ [15, 16, 2, 3, 17, 18, 26, 27] (by decide +kernel) (by decide +kernel)
set_option maxRecDepth 20000 in
theorem gX1_init_X7_init : GoodIn wsX1_init (wsX7_init) := ggX1_init_X7_init
theorem dX1_init_0 : decode cX1_init 0 = .ok (.aload_n 0, 1) := by decide +kernel
theorem dX1_init_1 : decode cX1_init 1 = .ok (.invokespecial 3, 3) := by decide +kernel
theorem dX1_init_4 : decode cX1_init 4 = .ok (.aload_n 0, 1) := by decide +kernel
theorem dX1_init_5 : decode cX1_init 5 = .ok (.sipush 240, 3) := by decide +kernel
theorem dX1_init_8 : decode cX1_init 8 = .ok (.newarray .int, 2) := by decide +kernel
theorem dX1_init_10 : decode cX1_init 10 = .ok (.putfield 9, 3) := by decide +kernel
theorem dX1_init_13 : decode cX1_init 13 = .ok (.aload_n 0, 1) := by decide +kernel
theorem dX1_init_14 : decode cX1_init 14 = .ok (.bipush 40, 2) := by decide +kernel
theorem dX1_init_16 : decode cX1_init 16 = .ok (.newarray .int, 2) := by decide +kernel
theorem dX1_init_18 : decode cX1_init 18 = .ok (.putfield 15, 3) := by decide +kernel
theorem dX1_init_21 : decode cX1_init 21 = .ok (.aload_n 0, 1) := by decide +kernel
theorem dX1_init_22 : decode cX1_init 22 = .ok (.bipush 40, 2) := by decide +kernel
theorem dX1_init_24 : decode cX1_init 24 = .ok (.newarray .int, 2) := by decide +kernel
theorem dX1_init_26 : decode cX1_init 26 = .ok (.putfield 18, 3) := by decide +kernel
theorem dX1_init_29 : decode cX1_init 29 = .ok (.aload_n 0, 1) := by decide +kernel
theorem dX1_init_30 : decode cX1_init 30 = .ok (.bipush 120, 2) := by decide +kernel
theorem dX1_init_32 : decode cX1_init 32 = .ok (.newarray .int, 2) := by decide +kernel
theorem dX1_init_34 : decode cX1_init 34 = .ok (.putfield 21, 3) := by decide +kernel
theorem dX1_init_37 : decode cX1_init 37 = .ok (.aload_n 0, 1) := by decide +kernel
theorem dX1_init_38 : decode cX1_init 38 = .ok (.new 24, 3) := by decide +kernel
theorem dX1_init_41 : decode cX1_init 41 = .ok (.dup, 1) := by decide +kernel
theorem dX1_init_42 : decode cX1_init 42 = .ok (.bipush 40, 2) := by decide +kernel
theorem dX1_init_44 : decode cX1_init 44 = .ok (.invokespecial 26, 3) := by decide +kernel
theorem dX1_init_47 : decode cX1_init 47 = .ok (.putfield 29, 3) := by decide +kernel
theorem dX1_init_50 : decode cX1_init 50 = .ok (.return_, 1) := by decide +kernel
theorem dX1_step_0 : decode cX1_step 0 = .ok (.iload_n 1, 1) := by decide +kernel
theorem dX1_step_1 : decode cX1_step 1 = .ok (.ifCond .lt 21, 3) := by decide +kernel
theorem dX1_step_4 : decode cX1_step 4 = .ok (.iload_n 1, 1) := by decide +kernel
theorem dX1_step_5 : decode cX1_step 5 = .ok (.aload_n 0, 1) := by decide +kernel
theorem dX1_step_6 : decode cX1_step 6 = .ok (.getfield 33, 3) := by decide +kernel
theorem dX1_step_9 : decode cX1_step 9 = .ok (.if_icmp .ge 13, 3) := by decide +kernel
theorem dX1_step_12 : decode cX1_step 12 = .ok (.iload_n 2, 1) := by decide +kernel
theorem dX1_step_13 : decode cX1_step 13 = .ok (.ifCond .lt 9, 3) := by decide +kernel
theorem dX1_step_16 : decode cX1_step 16 = .ok (.iload_n 2, 1) := by decide +kernel
theorem dX1_step_17 : decode cX1_step 17 = .ok (.bipush 6, 2) := by decide +kernel
theorem dX1_step_19 : decode cX1_step 19 = .ok (.if_icmp .lt 5, 3) := by decide +kernel
theorem dX1_step_22 : decode cX1_step 22 = .ok (.iconst (-1), 1) := by decide +kernel
theorem dX1_step_23 : decode cX1_step 23 = .ok (.ireturn, 1) := by decide +kernel
theorem dX1_step_24 : decode cX1_step 24 = .ok (.aload_n 0, 1) := by decide +kernel
theorem dX1_step_25 : decode cX1_step 25 = .ok (.getfield 9, 3) := by decide +kernel
theorem dX1_step_28 : decode cX1_step 28 = .ok (.iload_n 1, 1) := by decide +kernel
theorem dX1_step_29 : decode cX1_step 29 = .ok (.bipush 6, 2) := by decide +kernel
theorem dX1_step_31 : decode cX1_step 31 = .ok (.imul, 1) := by decide +kernel
theorem dX1_step_32 : decode cX1_step 32 = .ok (.iload_n 2, 1) := by decide +kernel
theorem dX1_step_33 : decode cX1_step 33 = .ok (.iadd, 1) := by decide +kernel
theorem dX1_step_34 : decode cX1_step 34 = .ok (.iaload, 1) := by decide +kernel
theorem dX1_step_35 : decode cX1_step 35 = .ok (.ireturn, 1) := by decide +kernel
set_option maxRecDepth 20000 in
theorem ggX1_walk_X1_step : GoodIn wsX1_walk wsX1_step := goodIn_ca (goodIn_r _ [7, 8, 9, 12, 13, 14, 15, 16, 17, 18] (by decide +kernel) (by decide +kernel)) (goodIn_sub (fun _ h => List.mem_cons_of_mem _ (List.mem_append_right _ h)) (by decide +kernel))
set_option maxRecDepth 20000 in
theorem gX1_walk_X1_step : GoodIn wsX1_walk (wsV RX1 42 RX1 yX1_step wsX1_step) := goodIn_app (goodIn_of _ (by decide +kernel)) ggX1_walk_X1_step
theorem dX1_walk_0 : decode cX1_walk 0 = .ok (.iconst 0, 1) := by decide +kernel
theorem dX1_walk_1 : decode cX1_walk 1 = .ok (.istore_n 2, 1) := by decide +kernel
theorem dX1_walk_2 : decode cX1_walk 2 = .ok (.iconst 0, 1) := by decide +kernel
theorem dX1_walk_3 : decode cX1_walk 3 = .ok (.istore_n 3, 1) := by decide +kernel
theorem dX1_walk_4 : decode cX1_walk 4 = .ok (.iload_n 3, 1) := by decide +kernel
theorem dX1_walk_5 : decode cX1_walk 5 = .ok (.aload_n 1, 1) := by decide +kernel
theorem dX1_walk_6 : decode cX1_walk 6 = .ok (.getfield 37, 3) := by decide +kernel
theorem dX1_walk_9 : decode cX1_walk 9 = .ok (.if_icmp .ge 21, 3) := by decide +kernel
theorem dX1_walk_12 : decode cX1_walk 12 = .ok (.aload_n 0, 1) := by decide +kernel
theorem dX1_walk_13 : decode cX1_walk 13 = .ok (.iload_n 2, 1) := by decide +kernel
theorem dX1_walk_14 : decode cX1_walk 14 = .ok (.aload_n 1, 1) := by decide +kernel
theorem dX1_walk_15 : decode cX1_walk 15 = .ok (.getfield 38, 3) := by decide +kernel
theorem dX1_walk_18 : decode cX1_walk 18 = .ok (.iload_n 3, 1) := by decide +kernel
theorem dX1_walk_19 : decode cX1_walk 19 = .ok (.baload, 1) := by decide +kernel
theorem dX1_walk_20 : decode cX1_walk 20 = .ok (.invokevirtual 42, 3) := by decide +kernel
theorem dX1_walk_23 : decode cX1_walk 23 = .ok (.istore_n 2, 1) := by decide +kernel
theorem dX1_walk_24 : decode cX1_walk 24 = .ok (.iinc 3 1, 3) := by decide +kernel
theorem dX1_walk_27 : decode cX1_walk 27 = .ok (.goto (-23), 3) := by decide +kernel
theorem dX1_walk_30 : decode cX1_walk 30 = .ok (.iload_n 2, 1) := by decide +kernel
theorem dX1_walk_31 : decode cX1_walk 31 = .ok (.ireturn, 1) := by decide +kernel
set_option maxRecDepth 20000 in
theorem ggX1_edgeCount_X1_step : GoodIn wsX1_edgeCount wsX1_step := goodIn_ca (goodIn_r _ [6, 1, 7, 8, 9, 10, 11, 12, 13, 14] (by decide +kernel) (by decide +kernel)) (goodIn_sub (fun _ h => List.mem_cons_of_mem _ (List.mem_append_right _ h)) (by decide +kernel))
set_option maxRecDepth 20000 in
theorem gX1_edgeCount_X1_step : GoodIn wsX1_edgeCount (wsV RX1 42 RX1 yX1_step wsX1_step) := goodIn_app (goodIn_of _ (by decide +kernel)) ggX1_edgeCount_X1_step
theorem dX1_edgeCount_0 : decode cX1_edgeCount 0 = .ok (.iconst 0, 1) := by decide +kernel
theorem dX1_edgeCount_1 : decode cX1_edgeCount 1 = .ok (.istore_n 1, 1) := by decide +kernel
theorem dX1_edgeCount_2 : decode cX1_edgeCount 2 = .ok (.iconst 0, 1) := by decide +kernel
theorem dX1_edgeCount_3 : decode cX1_edgeCount 3 = .ok (.istore_n 2, 1) := by decide +kernel
theorem dX1_edgeCount_4 : decode cX1_edgeCount 4 = .ok (.iload_n 2, 1) := by decide +kernel
theorem dX1_edgeCount_5 : decode cX1_edgeCount 5 = .ok (.aload_n 0, 1) := by decide +kernel
theorem dX1_edgeCount_6 : decode cX1_edgeCount 6 = .ok (.getfield 33, 3) := by decide +kernel
theorem dX1_edgeCount_9 : decode cX1_edgeCount 9 = .ok (.if_icmp .ge 35, 3) := by decide +kernel
theorem dX1_edgeCount_12 : decode cX1_edgeCount 12 = .ok (.iconst 0, 1) := by decide +kernel
theorem dX1_edgeCount_13 : decode cX1_edgeCount 13 = .ok (.istore_n 3, 1) := by decide +kernel
theorem dX1_edgeCount_14 : decode cX1_edgeCount 14 = .ok (.iload_n 3, 1) := by decide +kernel
theorem dX1_edgeCount_15 : decode cX1_edgeCount 15 = .ok (.bipush 6, 2) := by decide +kernel
theorem dX1_edgeCount_17 : decode cX1_edgeCount 17 = .ok (.if_icmp .ge 21, 3) := by decide +kernel
theorem dX1_edgeCount_20 : decode cX1_edgeCount 20 = .ok (.aload_n 0, 1) := by decide +kernel
theorem dX1_edgeCount_21 : decode cX1_edgeCount 21 = .ok (.iload_n 2, 1) := by decide +kernel
theorem dX1_edgeCount_22 : decode cX1_edgeCount 22 = .ok (.iload_n 3, 1) := by decide +kernel
theorem dX1_edgeCount_23 : decode cX1_edgeCount 23 = .ok (.invokevirtual 42, 3) := by decide +kernel
theorem dX1_edgeCount_26 : decode cX1_edgeCount 26 = .ok (.ifCond .lt 6, 3) := by decide +kernel
theorem dX1_edgeCount_29 : decode cX1_edgeCount 29 = .ok (.iinc 1 1, 3) := by decide +kernel
theorem dX1_edgeCount_32 : decode cX1_edgeCount 32 = .ok (.iinc 3 2, 3) := by decide +kernel
theorem dX1_edgeCount_35 : decode cX1_edgeCount 35 = .ok (.goto (-21), 3) := by decide +kernel
theorem dX1_edgeCount_38 : decode cX1_edgeCount 38 = .ok (.iinc 2 1, 3) := by decide +kernel
theorem dX1_edgeCount_41 : decode cX1_edgeCount 41 = .ok (.goto (-37), 3) := by decide +kernel
theorem dX1_edgeCount_44 : decode cX1_edgeCount 44 = .ok (.iload_n 1, 1) := by decide +kernel
theorem dX1_edgeCount_45 : decode cX1_edgeCount 45 = .ok (.ireturn, 1) := by decide +kernel
set_option maxRecDepth 20000 in
theorem ggX1_leadsBack_X1_step : GoodIn wsX1_leadsBack wsX1_step := goodIn_ca (goodIn_r _ [6, 1, 7, 8, 9, 10, 11, 12, 13, 14] (by decide +kernel) (by decide +kernel)) (goodIn_sub (fun _ h => List.mem_cons_of_mem _ (List.mem_append_right _ h)) (by decide +kernel))
set_option maxRecDepth 20000 in
theorem gX1_leadsBack_X1_step : GoodIn wsX1_leadsBack (wsV RX1 42 RX1 yX1_step wsX1_step) := goodIn_app (goodIn_of _ (by decide +kernel)) ggX1_leadsBack_X1_step
theorem dX1_leadsBack_0 : decode cX1_leadsBack 0 = .ok (.iconst 0, 1) := by decide +kernel
theorem dX1_leadsBack_1 : decode cX1_leadsBack 1 = .ok (.istore_n 1, 1) := by decide +kernel
theorem dX1_leadsBack_2 : decode cX1_leadsBack 2 = .ok (.iload_n 1, 1) := by decide +kernel
theorem dX1_leadsBack_3 : decode cX1_leadsBack 3 = .ok (.aload_n 0, 1) := by decide +kernel
theorem dX1_leadsBack_4 : decode cX1_leadsBack 4 = .ok (.getfield 33, 3) := by decide +kernel
theorem dX1_leadsBack_7 : decode cX1_leadsBack 7 = .ok (.if_icmp .ge 48, 3) := by decide +kernel
theorem dX1_leadsBack_10 : decode cX1_leadsBack 10 = .ok (.iconst 0, 1) := by decide +kernel
theorem dX1_leadsBack_11 : decode cX1_leadsBack 11 = .ok (.istore_n 2, 1) := by decide +kernel
theorem dX1_leadsBack_12 : decode cX1_leadsBack 12 = .ok (.iload_n 2, 1) := by decide +kernel
theorem dX1_leadsBack_13 : decode cX1_leadsBack 13 = .ok (.bipush 6, 2) := by decide +kernel
theorem dX1_leadsBack_15 : decode cX1_leadsBack 15 = .ok (.if_icmp .ge 34, 3) := by decide +kernel
theorem dX1_leadsBack_18 : decode cX1_leadsBack 18 = .ok (.aload_n 0, 1) := by decide +kernel
theorem dX1_leadsBack_19 : decode cX1_leadsBack 19 = .ok (.iload_n 1, 1) := by decide +kernel
theorem dX1_leadsBack_20 : decode cX1_leadsBack 20 = .ok (.iload_n 2, 1) := by decide +kernel
theorem dX1_leadsBack_21 : decode cX1_leadsBack 21 = .ok (.invokevirtual 42, 3) := by decide +kernel
theorem dX1_leadsBack_24 : decode cX1_leadsBack 24 = .ok (.istore_n 3, 1) := by decide +kernel
theorem dX1_leadsBack_25 : decode cX1_leadsBack 25 = .ok (.iload_n 3, 1) := by decide +kernel
theorem dX1_leadsBack_26 : decode cX1_leadsBack 26 = .ok (.ifCond .lt 17, 3) := by decide +kernel
theorem dX1_leadsBack_29 : decode cX1_leadsBack 29 = .ok (.aload_n 0, 1) := by decide +kernel
theorem dX1_leadsBack_30 : decode cX1_leadsBack 30 = .ok (.iload_n 3, 1) := by decide +kernel
theorem dX1_leadsBack_31 : decode cX1_leadsBack 31 = .ok (.iload_n 2, 1) := by decide +kernel
theorem dX1_leadsBack_32 : decode cX1_leadsBack 32 = .ok (.iconst 1, 1) := by decide +kernel
theorem dX1_leadsBack_33 : decode cX1_leadsBack 33 = .ok (.ixor, 1) := by decide +kernel
theorem dX1_leadsBack_34 : decode cX1_leadsBack 34 = .ok (.invokevirtual 42, 3) := by decide +kernel
theorem dX1_leadsBack_37 : decode cX1_leadsBack 37 = .ok (.iload_n 1, 1) := by decide +kernel
theorem dX1_leadsBack_38 : decode cX1_leadsBack 38 = .ok (.if_icmp .eq 5, 3) := by decide +kernel
theorem dX1_leadsBack_41 : decode cX1_leadsBack 41 = .ok (.iconst 0, 1) := by decide +kernel
theorem dX1_leadsBack_42 : decode cX1_leadsBack 42 = .ok (.ireturn, 1) := by decide +kernel
theorem dX1_leadsBack_43 : decode cX1_leadsBack 43 = .ok (.iinc 2 1, 3) := by decide +kernel
theorem dX1_leadsBack_46 : decode cX1_leadsBack 46 = .ok (.goto (-34), 3) := by decide +kernel
theorem dX1_leadsBack_49 : decode cX1_leadsBack 49 = .ok (.iinc 1 1, 3) := by decide +kernel
theorem dX1_leadsBack_52 : decode cX1_leadsBack 52 = .ok (.goto (-50), 3) := by decide +kernel
theorem dX1_leadsBack_55 : decode cX1_leadsBack 55 = .ok (.iconst 1, 1) := by decide +kernel
theorem dX1_leadsBack_56 : decode cX1_leadsBack 56 = .ok (.ireturn, 1) := by decide +kernel
set_option maxRecDepth 20000 in
theorem ggX2_init_X1_init : GoodIn wsX2_init wsX1_init := goodIn_r _ [13, 14, 2, 3, 15, 16, 17, 18, 19, 20, 10, 11, 21, 22, 23, 24, 25, 26, 27, 29, 30, 31, 32, 33, 34, 35, 39, 40] (by decide +kernel) (by decide +kernel)
set_option maxRecDepth 20000 in
theorem gX2_init_X1_init_n11 : GoodIn wsX2_init (wsX1_init) := ggX2_init_X1_init
set_option maxRecDepth 20000 in
theorem ggX2_init_X7_init : GoodIn wsX2_init wsX7_init := goodIn_r _ [24, 25, 2, 3, 26, 27, 39, 40] (by decide +kernel) (by decide +kernel)
set_option maxRecDepth 20000 in
theorem gX2_init_X7_init : GoodIn wsX2_init (wsX7_init) := ggX2_init_X7_init
theorem dX2_init_0 : decode cX2_init 0 = .ok (.aload_n 0, 1) := by decide +kernel
theorem dX2_init_1 : decode cX2_init 1 = .ok (.invokespecial 3, 3) := by decide +kernel
theorem dX2_init_4 : decode cX2_init 4 = .ok (.aload_n 0, 1) := by decide +kernel
theorem dX2_init_5 : decode cX2_init 5 = .ok (.new 9, 3) := by decide +kernel
theorem dX2_init_8 : decode cX2_init 8 = .ok (.dup, 1) := by decide +kernel
theorem dX2_init_9 : decode cX2_init 9 = .ok (.invokespecial 11, 3) := by decide +kernel
theorem dX2_init_12 : decode cX2_init 12 = .ok (.putfield 12, 3) := by decide +kernel
theorem dX2_init_15 : decode cX2_init 15 = .ok (.aload_n 0, 1) := by decide +kernel
theorem dX2_init_16 : decode cX2_init 16 = .ok (.bipush 81, 2) := by decide +kernel
theorem dX2_init_18 : decode cX2_init 18 = .ok (.anewarray 18, 3) := by decide +kernel
theorem dX2_init_21 : decode cX2_init 21 = .ok (.putfield 20, 3) := by decide +kernel
theorem dX2_init_24 : decode cX2_init 24 = .ok (.iconst 0, 1) := by decide +kernel
theorem dX2_init_25 : decode cX2_init 25 = .ok (.istore_n 1, 1) := by decide +kernel
theorem dX2_init_26 : decode cX2_init 26 = .ok (.iload_n 1, 1) := by decide +kernel
theorem dX2_init_27 : decode cX2_init 27 = .ok (.bipush 81, 2) := by decide +kernel
theorem dX2_init_29 : decode cX2_init 29 = .ok (.if_icmp .ge 24, 3) := by decide +kernel
theorem dX2_init_32 : decode cX2_init 32 = .ok (.aload_n 0, 1) := by decide +kernel
theorem dX2_init_33 : decode cX2_init 33 = .ok (.getfield 20, 3) := by decide +kernel
theorem dX2_init_36 : decode cX2_init 36 = .ok (.iload_n 1, 1) := by decide +kernel
theorem dX2_init_37 : decode cX2_init 37 = .ok (.new 18, 3) := by decide +kernel
theorem dX2_init_40 : decode cX2_init 40 = .ok (.dup, 1) := by decide +kernel
theorem dX2_init_41 : decode cX2_init 41 = .ok (.bipush 79, 2) := by decide +kernel
theorem dX2_init_43 : decode cX2_init 43 = .ok (.invokespecial 24, 3) := by decide +kernel
theorem dX2_init_46 : decode cX2_init 46 = .ok (.aastore, 1) := by decide +kernel
theorem dX2_init_47 : decode cX2_init 47 = .ok (.iinc 1 1, 3) := by decide +kernel
theorem dX2_init_50 : decode cX2_init 50 = .ok (.goto (-24), 3) := by decide +kernel
theorem dX2_init_53 : decode cX2_init 53 = .ok (.return_, 1) := by decide +kernel
set_option maxRecDepth 20000 in
theorem ggX2_isConsistent_X1_leadsBack : GoodIn wsX2_isConsistent wsX1_leadsBack := goodIn_ca (goodIn_r _ [10, 11, 12, 13, 14, 9, 15, 16, 30, 31, 32, 33, 34, 35, 36] (by decide +kernel) (by decide +kernel)) (goodIn_sub (fun _ h => List.mem_cons_of_mem _ (List.mem_append_right _ h)) (by decide +kernel))
set_option maxRecDepth 20000 in
theorem gX2_isConsistent_X1_leadsBack : GoodIn wsX2_isConsistent (wsV RX2 45 RX1 yX1_leadsBack wsX1_leadsBack) := goodIn_app (goodIn_of _ (by decide +kernel)) ggX2_isConsistent_X1_leadsBack
set_option maxRecDepth 20000 in
theorem ggX2_isConsistent_X1_edgeCount : GoodIn wsX2_isConsistent wsX1_edgeCount := goodIn_ca (goodIn_r _ [20, 11, 12, 13, 14, 9, 15, 16, 30, 31, 32, 33, 34, 35, 36] (by decide +kernel) (by decide +kernel)) (goodIn_sub (fun _ h => List.mem_cons_of_mem _ (List.mem_append_right _ h)) (by decide +kernel))
set_option maxRecDepth 20000 in
theorem gX2_isConsistent_X1_edgeCount : GoodIn wsX2_isConsistent (wsV RX2 49 RX1 yX1_edgeCount wsX1_edgeCount) := goodIn_app (goodIn_of _ (by decide +kernel)) ggX2_isConsistent_X1_edgeCount
set_option maxRecDepth 20000 in
theorem ggX2_isConsistent_X1_walk : GoodIn wsX2_isConsistent wsX1_walk := goodIn_ca (goodIn_r _ [24, 25, 26, 12, 13, 14, 9, 15, 11, 16, 37, 38, 30, 31, 32, 33, 34, 35, 36] (by decide +kernel) (by decide +kernel)) (goodIn_sub (fun _ h => List.mem_cons_of_mem _ (List.mem_append_right _ h)) (by decide +kernel))
set_option maxRecDepth 20000 in
theorem gX2_isConsistent_X1_walk : GoodIn wsX2_isConsistent (wsV RX2 56 RX1 yX1_walk wsX1_walk) := goodIn_app (goodIn_of _ (by decide +kernel)) ggX2_isConsistent_X1_walk
theorem dX2_isConsistent_0 : decode cX2_isConsistent 0 = .ok (.aload_n 0, 1) := by decide +kernel
theorem dX2_isConsistent_1 : decode cX2_isConsistent 1 = .ok (.getfield 12, 3) := by decide +kernel
theorem dX2_isConsistent_4 : decode cX2_isConsistent 4 = .ok (.invokevirtual 45, 3) := by decide +kernel
theorem dX2_isConsistent_7 : decode cX2_isConsistent 7 = .ok (.ifCond .eq 34, 3) := by decide +kernel
theorem dX2_isConsistent_10 : decode cX2_isConsistent 10 = .ok (.aload_n 0, 1) := by decide +kernel
theorem dX2_isConsistent_11 : decode cX2_isConsistent 11 = .ok (.getfield 12, 3) := by decide +kernel
theorem dX2_isConsistent_14 : decode cX2_isConsistent 14 = .ok (.getfield 35, 3) := by decide +kernel
theorem dX2_isConsistent_17 : decode cX2_isConsistent 17 = .ok (.aload_n 0, 1) := by decide +kernel
theorem dX2_isConsistent_18 : decode cX2_isConsistent 18 = .ok (.getfield 12, 3) := by decide +kernel
theorem dX2_isConsistent_21 : decode cX2_isConsistent 21 = .ok (.invokevirtual 49, 3) := by decide +kernel
theorem dX2_isConsistent_24 : decode cX2_isConsistent 24 = .ok (.aload_n 0, 1) := by decide +kernel
theorem dX2_isConsistent_25 : decode cX2_isConsistent 25 = .ok (.getfield 12, 3) := by decide +kernel
theorem dX2_isConsistent_28 : decode cX2_isConsistent 28 = .ok (.getfield 53, 3) := by decide +kernel
theorem dX2_isConsistent_31 : decode cX2_isConsistent 31 = .ok (.isub, 1) := by decide +kernel
theorem dX2_isConsistent_32 : decode cX2_isConsistent 32 = .ok (.iconst 1, 1) := by decide +kernel
theorem dX2_isConsistent_33 : decode cX2_isConsistent 33 = .ok (.iadd, 1) := by decide +kernel
theorem dX2_isConsistent_34 : decode cX2_isConsistent 34 = .ok (.if_icmp .ne 7, 3) := by decide +kernel
theorem dX2_isConsistent_37 : decode cX2_isConsistent 37 = .ok (.iconst 1, 1) := by decide +kernel
theorem dX2_isConsistent_38 : decode cX2_isConsistent 38 = .ok (.goto 4, 3) := by decide +kernel
theorem dX2_isConsistent_41 : decode cX2_isConsistent 41 = .ok (.iconst 0, 1) := by decide +kernel
theorem dX2_isConsistent_42 : decode cX2_isConsistent 42 = .ok (.istore_n 1, 1) := by decide +kernel
theorem dX2_isConsistent_43 : decode cX2_isConsistent 43 = .ok (.iconst 0, 1) := by decide +kernel
theorem dX2_isConsistent_44 : decode cX2_isConsistent 44 = .ok (.istore_n 2, 1) := by decide +kernel
theorem dX2_isConsistent_45 : decode cX2_isConsistent 45 = .ok (.iload_n 2, 1) := by decide +kernel
theorem dX2_isConsistent_46 : decode cX2_isConsistent 46 = .ok (.aload_n 0, 1) := by decide +kernel
theorem dX2_isConsistent_47 : decode cX2_isConsistent 47 = .ok (.getfield 27, 3) := by decide +kernel
theorem dX2_isConsistent_50 : decode cX2_isConsistent 50 = .ok (.if_icmp .ge 35, 3) := by decide +kernel
theorem dX2_isConsistent_53 : decode cX2_isConsistent 53 = .ok (.iload_n 1, 1) := by decide +kernel
theorem dX2_isConsistent_54 : decode cX2_isConsistent 54 = .ok (.ifCond .eq 23, 3) := by decide +kernel
theorem dX2_isConsistent_57 : decode cX2_isConsistent 57 = .ok (.aload_n 0, 1) := by decide +kernel
theorem dX2_isConsistent_58 : decode cX2_isConsistent 58 = .ok (.getfield 12, 3) := by decide +kernel
theorem dX2_isConsistent_61 : decode cX2_isConsistent 61 = .ok (.aload_n 0, 1) := by decide +kernel
theorem dX2_isConsistent_62 : decode cX2_isConsistent 62 = .ok (.getfield 20, 3) := by decide +kernel
theorem dX2_isConsistent_65 : decode cX2_isConsistent 65 = .ok (.iload_n 2, 1) := by decide +kernel
theorem dX2_isConsistent_66 : decode cX2_isConsistent 66 = .ok (.aaload, 1) := by decide +kernel
theorem dX2_isConsistent_67 : decode cX2_isConsistent 67 = .ok (.invokevirtual 56, 3) := by decide +kernel
theorem dX2_isConsistent_70 : decode cX2_isConsistent 70 = .ok (.ifCond .ne 7, 3) := by decide +kernel
theorem dX2_isConsistent_73 : decode cX2_isConsistent 73 = .ok (.iconst 1, 1) := by decide +kernel
theorem dX2_isConsistent_74 : decode cX2_isConsistent 74 = .ok (.goto 4, 3) := by decide +kernel
theorem dX2_isConsistent_77 : decode cX2_isConsistent 77 = .ok (.iconst 0, 1) := by decide +kernel
theorem dX2_isConsistent_78 : decode cX2_isConsistent 78 = .ok (.istore_n 1, 1) := by decide +kernel
theorem dX2_isConsistent_79 : decode cX2_isConsistent 79 = .ok (.iinc 2 1, 3) := by decide +kernel
theorem dX2_isConsistent_82 : decode cX2_isConsistent 82 = .ok (.goto (-37), 3) := by decide +kernel
theorem dX2_isConsistent_85 : decode cX2_isConsistent 85 = .ok (.iload_n 1, 1) := by decide +kernel
theorem dX2_isConsistent_86 : decode cX2_isConsistent 86 = .ok (.ireturn, 1) := by decide +kernel
set_option maxRecDepth 20000 in
theorem ggX3_init_X7_init : GoodIn wsX3_init wsX7_init := goodIn_r _ [15, 16, 2, 3, 17, 18, 23, 24] (by decide +kernel) (by decide +kernel)
set_option maxRecDepth 20000 in
theorem gX3_init_X7_init : GoodIn wsX3_init (wsX7_init) := ggX3_init_X7_init
theorem dX3_init_0 : decode cX3_init 0 = .ok (.aload_n 0, 1) := by decide +kernel
theorem dX3_init_1 : decode cX3_init 1 = .ok (.invokespecial 3, 3) := by decide +kernel
theorem dX3_init_4 : decode cX3_init 4 = .ok (.aload_n 0, 1) := by decide +kernel
theorem dX3_init_5 : decode cX3_init 5 = .ok (.iconst 3, 1) := by decide +kernel
theorem dX3_init_6 : decode cX3_init 6 = .ok (.anewarray 9, 3) := by decide +kernel
theorem dX3_init_9 : decode cX3_init 9 = .ok (.putfield 11, 3) := by decide +kernel
theorem dX3_init_12 : decode cX3_init 12 = .ok (.aload_n 0, 1) := by decide +kernel
theorem dX3_init_13 : decode cX3_init 13 = .ok (.bipush 6, 2) := by decide +kernel
theorem dX3_init_15 : decode cX3_init 15 = .ok (.newarray .int, 2) := by decide +kernel
theorem dX3_init_17 : decode cX3_init 17 = .ok (.putfield 17, 3) := by decide +kernel
theorem dX3_init_20 : decode cX3_init 20 = .ok (.aload_n 0, 1) := by decide +kernel
theorem dX3_init_21 : decode cX3_init 21 = .ok (.iconst 3, 1) := by decide +kernel
theorem dX3_init_22 : decode cX3_init 22 = .ok (.newarray .long, 2) := by decide +kernel
theorem dX3_init_24 : decode cX3_init 24 = .ok (.putfield 21, 3) := by decide +kernel
theorem dX3_init_27 : decode cX3_init 27 = .ok (.aload_n 0, 1) := by decide +kernel
theorem dX3_init_28 : decode cX3_init 28 = .ok (.iconst 3, 1) := by decide +kernel
theorem dX3_init_29 : decode cX3_init 29 = .ok (.newarray .long, 2) := by decide +kernel
theorem dX3_init_31 : decode cX3_init 31 = .ok (.putfield 25, 3) := by decide +kernel
theorem dX3_init_34 : decode cX3_init 34 = .ok (.iconst 0, 1) := by decide +kernel
theorem dX3_init_35 : decode cX3_init 35 = .ok (.istore_n 1, 1) := by decide +kernel
theorem dX3_init_36 : decode cX3_init 36 = .ok (.iload_n 1, 1) := by decide +kernel
theorem dX3_init_37 : decode cX3_init 37 = .ok (.iconst 3, 1) := by decide +kernel
theorem dX3_init_38 : decode cX3_init 38 = .ok (.if_icmp .ge 24, 3) := by decide +kernel
theorem dX3_init_41 : decode cX3_init 41 = .ok (.aload_n 0, 1) := by decide +kernel
theorem dX3_init_42 : decode cX3_init 42 = .ok (.getfield 11, 3) := by decide +kernel
theorem dX3_init_45 : decode cX3_init 45 = .ok (.iload_n 1, 1) := by decide +kernel
theorem dX3_init_46 : decode cX3_init 46 = .ok (.new 9, 3) := by decide +kernel
theorem dX3_init_49 : decode cX3_init 49 = .ok (.dup, 1) := by decide +kernel
theorem dX3_init_50 : decode cX3_init 50 = .ok (.bipush 60, 2) := by decide +kernel
theorem dX3_init_52 : decode cX3_init 52 = .ok (.invokespecial 28, 3) := by decide +kernel
theorem dX3_init_55 : decode cX3_init 55 = .ok (.aastore, 1) := by decide +kernel
theorem dX3_init_56 : decode cX3_init 56 = .ok (.iinc 1 1, 3) := by decide +kernel
theorem dX3_init_59 : decode cX3_init 59 = .ok (.goto (-23), 3) := by decide +kernel
theorem dX3_init_62 : decode cX3_init 62 = .ok (.return_, 1) := by decide +kernel
set_option maxRecDepth 20000 in
theorem ggX4_init_X7_init : GoodIn wsX4_init wsX7_init := goodIn_r _ [13, 14, 2, 3, 15, 16, 22, 23] (by decide +kernel) (by decide +kernel)
set_option maxRecDepth 20000 in
theorem gX4_init_X7_init : GoodIn wsX4_init (wsX7_init) := ggX4_init_X7_init
theorem dX4_init_0 : decode cX4_init 0 = .ok (.aload_n 0, 1) := by decide +kernel
theorem dX4_init_1 : decode cX4_init 1 = .ok (.invokespecial 3, 3) := by decide +kernel
theorem dX4_init_4 : decode cX4_init 4 = .ok (.aload_n 0, 1) := by decide +kernel
theorem dX4_init_5 : decode cX4_init 5 = .ok (.iconst 3, 1) := by decide +kernel
theorem dX4_init_6 : decode cX4_init 6 = .ok (.anewarray 9, 3) := by decide +kernel
theorem dX4_init_9 : decode cX4_init 9 = .ok (.putfield 11, 3) := by decide +kernel
theorem dX4_init_12 : decode cX4_init 12 = .ok (.aload_n 0, 1) := by decide +kernel
theorem dX4_init_13 : decode cX4_init 13 = .ok (.iconst 3, 1) := by decide +kernel
theorem dX4_init_14 : decode cX4_init 14 = .ok (.anewarray 9, 3) := by decide +kernel
theorem dX4_init_17 : decode cX4_init 17 = .ok (.putfield 17, 3) := by decide +kernel
theorem dX4_init_20 : decode cX4_init 20 = .ok (.aload_n 0, 1) := by decide +kernel
theorem dX4_init_21 : decode cX4_init 21 = .ok (.new 9, 3) := by decide +kernel
theorem dX4_init_24 : decode cX4_init 24 = .ok (.dup, 1) := by decide +kernel
theorem dX4_init_25 : decode cX4_init 25 = .ok (.bipush 120, 2) := by decide +kernel
theorem dX4_init_27 : decode cX4_init 27 = .ok (.invokespecial 20, 3) := by decide +kernel
theorem dX4_init_30 : decode cX4_init 30 = .ok (.putfield 23, 3) := by decide +kernel
theorem dX4_init_33 : decode cX4_init 33 = .ok (.aload_n 0, 1) := by decide +kernel
theorem dX4_init_34 : decode cX4_init 34 = .ok (.new 9, 3) := by decide +kernel
theorem dX4_init_37 : decode cX4_init 37 = .ok (.dup, 1) := by decide +kernel
theorem dX4_init_38 : decode cX4_init 38 = .ok (.sipush 7200, 3) := by decide +kernel
theorem dX4_init_41 : decode cX4_init 41 = .ok (.invokespecial 20, 3) := by decide +kernel
theorem dX4_init_44 : decode cX4_init 44 = .ok (.putfield 27, 3) := by decide +kernel
theorem dX4_init_47 : decode cX4_init 47 = .ok (.iconst 0, 1) := by decide +kernel
theorem dX4_init_48 : decode cX4_init 48 = .ok (.istore_n 1, 1) := by decide +kernel
theorem dX4_init_49 : decode cX4_init 49 = .ok (.iload_n 1, 1) := by decide +kernel
theorem dX4_init_50 : decode cX4_init 50 = .ok (.iconst 3, 1) := by decide +kernel
theorem dX4_init_51 : decode cX4_init 51 = .ok (.if_icmp .ge 40, 3) := by decide +kernel
theorem dX4_init_54 : decode cX4_init 54 = .ok (.aload_n 0, 1) := by decide +kernel
theorem dX4_init_55 : decode cX4_init 55 = .ok (.getfield 11, 3) := by decide +kernel
theorem dX4_init_58 : decode cX4_init 58 = .ok (.iload_n 1, 1) := by decide +kernel
theorem dX4_init_59 : decode cX4_init 59 = .ok (.new 9, 3) := by decide +kernel
theorem dX4_init_62 : decode cX4_init 62 = .ok (.dup, 1) := by decide +kernel
theorem dX4_init_63 : decode cX4_init 63 = .ok (.bipush 60, 2) := by decide +kernel
theorem dX4_init_65 : decode cX4_init 65 = .ok (.invokespecial 20, 3) := by decide +kernel
theorem dX4_init_68 : decode cX4_init 68 = .ok (.aastore, 1) := by decide +kernel
theorem dX4_init_69 : decode cX4_init 69 = .ok (.aload_n 0, 1) := by decide +kernel
theorem dX4_init_70 : decode cX4_init 70 = .ok (.getfield 17, 3) := by decide +kernel
theorem dX4_init_73 : decode cX4_init 73 = .ok (.iload_n 1, 1) := by decide +kernel
theorem dX4_init_74 : decode cX4_init 74 = .ok (.new 9, 3) := by decide +kernel
theorem dX4_init_77 : decode cX4_init 77 = .ok (.dup, 1) := by decide +kernel
theorem dX4_init_78 : decode cX4_init 78 = .ok (.sipush 3600, 3) := by decide +kernel
theorem dX4_init_81 : decode cX4_init 81 = .ok (.invokespecial 20, 3) := by decide +kernel
theorem dX4_init_84 : decode cX4_init 84 = .ok (.aastore, 1) := by decide +kernel
theorem dX4_init_85 : decode cX4_init 85 = .ok (.iinc 1 1, 3) := by decide +kernel
theorem dX4_init_88 : decode cX4_init 88 = .ok (.goto (-39), 3) := by decide +kernel
theorem dX4_init_91 : decode cX4_init 91 = .ok (.return_, 1) := by decide +kernel
theorem dX5_init_0 : decode cX5_init 0 = .ok (.aload_n 0, 1) := by decide +kernel
theorem dX5_init_1 : decode cX5_init 1 = .ok (.invokespecial 3, 3) := by decide +kernel
theorem dX5_init_4 : decode cX5_init 4 = .ok (.aload_n 0, 1) := by decide +kernel
theorem dX5_init_5 : decode cX5_init 5 = .ok (.sipush 9600, 3) := by decide +kernel
theorem dX5_init_8 : decode cX5_init 8 = .ok (.newarray .int, 2) := by decide +kernel
theorem dX5_init_10 : decode cX5_init 10 = .ok (.putfield 9, 3) := by decide +kernel
theorem dX5_init_13 : decode cX5_init 13 = .ok (.aload_n 0, 1) := by decide +kernel
theorem dX5_init_14 : decode cX5_init 14 = .ok (.sipush 1600, 3) := by decide +kernel
theorem dX5_init_17 : decode cX5_init 17 = .ok (.newarray .int, 2) := by decide +kernel
theorem dX5_init_19 : decode cX5_init 19 = .ok (.putfield 15, 3) := by decide +kernel
theorem dX5_init_22 : decode cX5_init 22 = .ok (.aload_n 0, 1) := by decide +kernel
theorem dX5_init_23 : decode cX5_init 23 = .ok (.sipush 1600, 3) := by decide +kernel
theorem dX5_init_26 : decode cX5_init 26 = .ok (.newarray .int, 2) := by decide +kernel
theorem dX5_init_28 : decode cX5_init 28 = .ok (.putfield 18, 3) := by decide +kernel
theorem dX5_init_31 : decode cX5_init 31 = .ok (.aload_n 0, 1) := by decide +kernel
theorem dX5_init_32 : decode cX5_init 32 = .ok (.sipush 1600, 3) := by decide +kernel
theorem dX5_init_35 : decode cX5_init 35 = .ok (.newarray .int, 2) := by decide +kernel
theorem dX5_init_37 : decode cX5_init 37 = .ok (.putfield 21, 3) := by decide +kernel
theorem dX5_init_40 : decode cX5_init 40 = .ok (.aload_n 0, 1) := by decide +kernel
theorem dX5_init_41 : decode cX5_init 41 = .ok (.bipush 40, 2) := by decide +kernel
theorem dX5_init_43 : decode cX5_init 43 = .ok (.newarray .int, 2) := by decide +kernel
theorem dX5_init_45 : decode cX5_init 45 = .ok (.putfield 24, 3) := by decide +kernel
theorem dX5_init_48 : decode cX5_init 48 = .ok (.aload_n 0, 1) := by decide +kernel
theorem dX5_init_49 : decode cX5_init 49 = .ok (.sipush 9600, 3) := by decide +kernel
theorem dX5_init_52 : decode cX5_init 52 = .ok (.newarray .int, 2) := by decide +kernel
theorem dX5_init_54 : decode cX5_init 54 = .ok (.putfield 27, 3) := by decide +kernel
theorem dX5_init_57 : decode cX5_init 57 = .ok (.aload_n 0, 1) := by decide +kernel
theorem dX5_init_58 : decode cX5_init 58 = .ok (.sipush 9600, 3) := by decide +kernel
theorem dX5_init_61 : decode cX5_init 61 = .ok (.newarray .int, 2) := by decide +kernel
theorem dX5_init_63 : decode cX5_init 63 = .ok (.putfield 30, 3) := by decide +kernel
theorem dX5_init_66 : decode cX5_init 66 = .ok (.return_, 1) := by decide +kernel
theorem dX6_init_0 : decode cX6_init 0 = .ok (.aload_n 0, 1) := by decide +kernel
theorem dX6_init_1 : decode cX6_init 1 = .ok (.invokespecial 3, 3) := by decide +kernel
theorem dX6_init_4 : decode cX6_init 4 = .ok (.aload_n 0, 1) := by decide +kernel
theorem dX6_init_5 : decode cX6_init 5 = .ok (.sipush 240, 3) := by decide +kernel
theorem dX6_init_8 : decode cX6_init 8 = .ok (.newarray .long, 2) := by decide +kernel
theorem dX6_init_10 : decode cX6_init 10 = .ok (.putfield 9, 3) := by decide +kernel
theorem dX6_init_13 : decode cX6_init 13 = .ok (.aload_n 0, 1) := by decide +kernel
theorem dX6_init_14 : decode cX6_init 14 = .ok (.sipush 240, 3) := by decide +kernel
theorem dX6_init_17 : decode cX6_init 17 = .ok (.newarray .long, 2) := by decide +kernel
theorem dX6_init_19 : decode cX6_init 19 = .ok (.putfield 15, 3) := by decide +kernel
theorem dX6_init_22 : decode cX6_init 22 = .ok (.return_, 1) := by decide +kernel
theorem dX7_init_0 : decode cX7_init 0 = .ok (.aload_n 0, 1) := by decide +kernel
theorem dX7_init_1 : decode cX7_init 1 = .ok (.invokespecial 3, 3) := by decide +kernel
theorem dX7_init_4 : decode cX7_init 4 = .ok (.aload_n 0, 1) := by decide +kernel
theorem dX7_init_5 : decode cX7_init 5 = .ok (.iload_n 1, 1) := by decide +kernel
theorem dX7_init_6 : decode cX7_init 6 = .ok (.ifCond .le 7, 3) := by decide +kernel
theorem dX7_init_9 : decode cX7_init 9 = .ok (.iload_n 1, 1) := by decide +kernel
theorem dX7_init_10 : decode cX7_init 10 = .ok (.goto 4, 3) := by decide +kernel
theorem dX7_init_13 : decode cX7_init 13 = .ok (.iconst 0, 1) := by decide +kernel
theorem dX7_init_14 : decode cX7_init 14 = .ok (.newarray .byte, 2) := by decide +kernel
theorem dX7_init_16 : decode cX7_init 16 = .ok (.putfield 9, 3) := by decide +kernel
theorem dX7_init_19 : decode cX7_init 19 = .ok (.return_, 1) := by decide +kernel
theorem dX7_clear_0 : decode cX7_clear 0 = .ok (.aload_n 0, 1) := by decide +kernel
theorem dX7_clear_1 : decode cX7_clear 1 = .ok (.iconst 0, 1) := by decide +kernel
theorem dX7_clear_2 : decode cX7_clear 2 = .ok (.putfield 15, 3) := by decide +kernel
theorem dX7_clear_5 : decode cX7_clear 5 = .ok (.return_, 1) := by decide +kernel
theorem dX7_add_0 : decode cX7_add 0 = .ok (.aload_n 0, 1) := by decide +kernel
theorem dX7_add_1 : decode cX7_add 1 = .ok (.getfield 15, 3) := by decide +kernel
theorem dX7_add_4 : decode cX7_add 4 = .ok (.ifCond .le 33, 3) := by decide +kernel
theorem dX7_add_7 : decode cX7_add 7 = .ok (.aload_n 0, 1) := by decide +kernel
theorem dX7_add_8 : decode cX7_add 8 = .ok (.getfield 9, 3) := by decide +kernel
theorem dX7_add_11 : decode cX7_add 11 = .ok (.aload_n 0, 1) := by decide +kernel
theorem dX7_add_12 : decode cX7_add 12 = .ok (.getfield 15, 3) := by decide +kernel
theorem dX7_add_15 : decode cX7_add 15 = .ok (.iconst 1, 1) := by decide +kernel
theorem dX7_add_16 : decode cX7_add 16 = .ok (.isub, 1) := by decide +kernel
theorem dX7_add_17 : decode cX7_add 17 = .ok (.baload, 1) := by decide +kernel
theorem dX7_add_18 : decode cX7_add 18 = .ok (.iload_n 1, 1) := by decide +kernel
theorem dX7_add_19 : decode cX7_add 19 = .ok (.iconst 1, 1) := by decide +kernel
theorem dX7_add_20 : decode cX7_add 20 = .ok (.ixor, 1) := by decide +kernel
theorem dX7_add_21 : decode cX7_add 21 = .ok (.if_icmp .ne 16, 3) := by decide +kernel
theorem dX7_add_24 : decode cX7_add 24 = .ok (.aload_n 0, 1) := by decide +kernel
theorem dX7_add_25 : decode cX7_add 25 = .ok (.dup, 1) := by decide +kernel
theorem dX7_add_26 : decode cX7_add 26 = .ok (.getfield 15, 3) := by decide +kernel
theorem dX7_add_29 : decode cX7_add 29 = .ok (.iconst 1, 1) := by decide +kernel
theorem dX7_add_30 : decode cX7_add 30 = .ok (.isub, 1) := by decide +kernel
theorem dX7_add_31 : decode cX7_add 31 = .ok (.putfield 15, 3) := by decide +kernel
theorem dX7_add_34 : decode cX7_add 34 = .ok (.goto 36, 3) := by decide +kernel
theorem dX7_add_37 : decode cX7_add 37 = .ok (.aload_n 0, 1) := by decide +kernel
theorem dX7_add_38 : decode cX7_add 38 = .ok (.getfield 15, 3) := by decide +kernel
theorem dX7_add_41 : decode cX7_add 41 = .ok (.aload_n 0, 1) := by decide +kernel
theorem dX7_add_42 : decode cX7_add 42 = .ok (.getfield 9, 3) := by decide +kernel
theorem dX7_add_45 : decode cX7_add 45 = .ok (.arraylength, 1) := by decide +kernel
theorem dX7_add_46 : decode cX7_add 46 = .ok (.if_icmp .ge 24, 3) := by decide +kernel
theorem dX7_add_49 : decode cX7_add 49 = .ok (.aload_n 0, 1) := by decide +kernel
theorem dX7_add_50 : decode cX7_add 50 = .ok (.getfield 9, 3) := by decide +kernel
theorem dX7_add_53 : decode cX7_add 53 = .ok (.aload_n 0, 1) := by decide +kernel
theorem dX7_add_54 : decode cX7_add 54 = .ok (.getfield 15, 3) := by decide +kernel
theorem dX7_add_57 : decode cX7_add 57 = .ok (.iload_n 1, 1) := by decide +kernel
theorem dX7_add_58 : decode cX7_add 58 = .ok (.i2b, 1) := by decide +kernel
theorem dX7_add_59 : decode cX7_add 59 = .ok (.bastore, 1) := by decide +kernel
theorem dX7_add_60 : decode cX7_add 60 = .ok (.aload_n 0, 1) := by decide +kernel
theorem dX7_add_61 : decode cX7_add 61 = .ok (.dup, 1) := by decide +kernel
theorem dX7_add_62 : decode cX7_add 62 = .ok (.getfield 15, 3) := by decide +kernel
theorem dX7_add_65 : decode cX7_add 65 = .ok (.iconst 1, 1) := by decide +kernel
theorem dX7_add_66 : decode cX7_add 66 = .ok (.iadd, 1) := by decide +kernel
theorem dX7_add_67 : decode cX7_add 67 = .ok (.putfield 15, 3) := by decide +kernel
theorem dX7_add_70 : decode cX7_add 70 = .ok (.return_, 1) := by decide +kernel
set_option maxRecDepth 20000 in
theorem ggX7_addPart_X7_add : GoodIn wsX7_addPart wsX7_add := goodIn_ca (goodIn_r _ [7, 1, 2, 8, 9] (by decide +kernel) (by decide +kernel)) (goodIn_sub (fun _ h => List.mem_cons_of_mem _ (List.mem_append_right _ h)) (by decide +kernel))
set_option maxRecDepth 20000 in
theorem gX7_addPart_X7_add : GoodIn wsX7_addPart (wsV RX7 19 RX7 yX7_add wsX7_add) := goodIn_app (goodIn_of _ (by decide +kernel)) ggX7_addPart_X7_add
theorem dX7_addPart_0 : decode cX7_addPart 0 = .ok (.iload_n 2, 1) := by decide +kernel
theorem dX7_addPart_1 : decode cX7_addPart 1 = .ok (.ifCond .le 7, 3) := by decide +kernel
theorem dX7_addPart_4 : decode cX7_addPart 4 = .ok (.iload_n 2, 1) := by decide +kernel
theorem dX7_addPart_5 : decode cX7_addPart 5 = .ok (.goto 4, 3) := by decide +kernel
theorem dX7_addPart_8 : decode cX7_addPart 8 = .ok (.iconst 0, 1) := by decide +kernel
theorem dX7_addPart_9 : decode cX7_addPart 9 = .ok (.istore 4, 2) := by decide +kernel
theorem dX7_addPart_11 : decode cX7_addPart 11 = .ok (.iload 4, 2) := by decide +kernel
theorem dX7_addPart_13 : decode cX7_addPart 13 = .ok (.istore 5, 2) := by decide +kernel
theorem dX7_addPart_15 : decode cX7_addPart 15 = .ok (.iload 5, 2) := by decide +kernel
theorem dX7_addPart_17 : decode cX7_addPart 17 = .ok (.iload_n 3, 1) := by decide +kernel
theorem dX7_addPart_18 : decode cX7_addPart 18 = .ok (.if_icmp .ge 29, 3) := by decide +kernel
theorem dX7_addPart_21 : decode cX7_addPart 21 = .ok (.iload 5, 2) := by decide +kernel
theorem dX7_addPart_23 : decode cX7_addPart 23 = .ok (.aload_n 1, 1) := by decide +kernel
theorem dX7_addPart_24 : decode cX7_addPart 24 = .ok (.getfield 15, 3) := by decide +kernel
theorem dX7_addPart_27 : decode cX7_addPart 27 = .ok (.if_icmp .ge 20, 3) := by decide +kernel
theorem dX7_addPart_30 : decode cX7_addPart 30 = .ok (.aload_n 0, 1) := by decide +kernel
theorem dX7_addPart_31 : decode cX7_addPart 31 = .ok (.aload_n 1, 1) := by decide +kernel
theorem dX7_addPart_32 : decode cX7_addPart 32 = .ok (.getfield 9, 3) := by decide +kernel
theorem dX7_addPart_35 : decode cX7_addPart 35 = .ok (.iload 5, 2) := by decide +kernel
theorem dX7_addPart_37 : decode cX7_addPart 37 = .ok (.baload, 1) := by decide +kernel
theorem dX7_addPart_38 : decode cX7_addPart 38 = .ok (.invokevirtual 19, 3) := by decide +kernel
theorem dX7_addPart_41 : decode cX7_addPart 41 = .ok (.iinc 5 1, 3) := by decide +kernel
theorem dX7_addPart_44 : decode cX7_addPart 44 = .ok (.goto (-29), 3) := by decide +kernel
theorem dX7_addPart_47 : decode cX7_addPart 47 = .ok (.return_, 1) := by decide +kernel
set_option maxRecDepth 20000 in
theorem ggX7_addPartInverse_X7_add : GoodIn wsX7_addPartInverse wsX7_add := goodIn_ca (goodIn_r _ [7, 1, 2, 8, 9] (by decide +kernel) (by decide +kernel)) (goodIn_sub (fun _ h => List.mem_cons_of_mem _ (List.mem_append_right _ h)) (by decide +kernel))
set_option maxRecDepth 20000 in
theorem gX7_addPartInverse_X7_add : GoodIn wsX7_addPartInverse (wsV RX7 19 RX7 yX7_add wsX7_add) := goodIn_app (goodIn_of _ (by decide +kernel)) ggX7_addPartInverse_X7_add
theorem dX7_addPartInverse_0 : decode cX7_addPartInverse 0 = .ok (.iload_n 3, 1) := by decide +kernel
theorem dX7_addPartInverse_1 : decode cX7_addPartInverse 1 = .ok (.aload_n 1, 1) := by decide +kernel
theorem dX7_addPartInverse_2 : decode cX7_addPartInverse 2 = .ok (.getfield 15, 3) := by decide +kernel
theorem dX7_addPartInverse_5 : decode cX7_addPartInverse 5 = .ok (.if_icmp .ge 7, 3) := by decide +kernel
theorem dX7_addPartInverse_8 : decode cX7_addPartInverse 8 = .ok (.iload_n 3, 1) := by decide +kernel
theorem dX7_addPartInverse_9 : decode cX7_addPartInverse 9 = .ok (.goto 7, 3) := by decide +kernel
theorem dX7_addPartInverse_12 : decode cX7_addPartInverse 12 = .ok (.aload_n 1, 1) := by decide +kernel
theorem dX7_addPartInverse_13 : decode cX7_addPartInverse 13 = .ok (.getfield 15, 3) := by decide +kernel
theorem dX7_addPartInverse_16 : decode cX7_addPartInverse 16 = .ok (.iconst 1, 1) := by decide +kernel
theorem dX7_addPartInverse_17 : decode cX7_addPartInverse 17 = .ok (.isub, 1) := by decide +kernel
theorem dX7_addPartInverse_18 : decode cX7_addPartInverse 18 = .ok (.istore 4, 2) := by decide +kernel
theorem dX7_addPartInverse_20 : decode cX7_addPartInverse 20 = .ok (.iload 4, 2) := by decide +kernel
theorem dX7_addPartInverse_22 : decode cX7_addPartInverse 22 = .ok (.istore 5, 2) := by decide +kernel
theorem dX7_addPartInverse_24 : decode cX7_addPartInverse 24 = .ok (.iload 5, 2) := by decide +kernel
theorem dX7_addPartInverse_26 : decode cX7_addPartInverse 26 = .ok (.iload_n 2, 1) := by decide +kernel
theorem dX7_addPartInverse_27 : decode cX7_addPartInverse 27 = .ok (.if_icmp .lt 27, 3) := by decide +kernel
theorem dX7_addPartInverse_30 : decode cX7_addPartInverse 30 = .ok (.iload 5, 2) := by decide +kernel
theorem dX7_addPartInverse_32 : decode cX7_addPartInverse 32 = .ok (.ifCond .lt 22, 3) := by decide +kernel
theorem dX7_addPartInverse_35 : decode cX7_addPartInverse 35 = .ok (.aload_n 0, 1) := by decide +kernel
theorem dX7_addPartInverse_36 : decode cX7_addPartInverse 36 = .ok (.aload_n 1, 1) := by decide +kernel
theorem dX7_addPartInverse_37 : decode cX7_addPartInverse 37 = .ok (.getfield 9, 3) := by decide +kernel
theorem dX7_addPartInverse_40 : decode cX7_addPartInverse 40 = .ok (.iload 5, 2) := by decide +kernel
theorem dX7_addPartInverse_42 : decode cX7_addPartInverse 42 = .ok (.baload, 1) := by decide +kernel
theorem dX7_addPartInverse_43 : decode cX7_addPartInverse 43 = .ok (.iconst 1, 1) := by decide +kernel
theorem dX7_addPartInverse_44 : decode cX7_addPartInverse 44 = .ok (.ixor, 1) := by decide +kernel
theorem dX7_addPartInverse_45 : decode cX7_addPartInverse 45 = .ok (.invokevirtual 19, 3) := by decide +kernel
theorem dX7_addPartInverse_48 : decode cX7_addPartInverse 48 = .ok (.iinc 5 (-1), 3) := by decide +kernel
theorem dX7_addPartInverse_51 : decode cX7_addPartInverse 51 = .ok (.goto (-27), 3) := by decide +kernel
theorem dX7_addPartInverse_54 : decode cX7_addPartInverse 54 = .ok (.return_, 1) := by decide +kernel
set_option maxRecDepth 20000 in
theorem ggX7_addRow_X7_add : GoodIn wsX7_addRow wsX7_add := goodIn_ca (goodIn_r _ [7, 1, 2, 8, 9] (by decide +kernel) (by decide +kernel)) (goodIn_sub (fun _ h => List.mem_cons_of_mem _ (List.mem_append_right _ h)) (by decide +kernel))
set_option maxRecDepth 20000 in
theorem gX7_addRow_X7_add : GoodIn wsX7_addRow (wsV RX7 19 RX7 yX7_add wsX7_add) := goodIn_app (goodIn_of _ (by decide +kernel)) ggX7_addRow_X7_add
theorem dX7_addRow_0 : decode cX7_addRow 0 = .ok (.aload_n 1, 1) := by decide +kernel
theorem dX7_addRow_1 : decode cX7_addRow 1 = .ok (.getfield 15, 3) := by decide +kernel
theorem dX7_addRow_4 : decode cX7_addRow 4 = .ok (.istore_n 2, 1) := by decide +kernel
theorem dX7_addRow_5 : decode cX7_addRow 5 = .ok (.iconst 0, 1) := by decide +kernel
theorem dX7_addRow_6 : decode cX7_addRow 6 = .ok (.istore_n 3, 1) := by decide +kernel
theorem dX7_addRow_7 : decode cX7_addRow 7 = .ok (.iload_n 3, 1) := by decide +kernel
theorem dX7_addRow_8 : decode cX7_addRow 8 = .ok (.iload_n 2, 1) := by decide +kernel
theorem dX7_addRow_9 : decode cX7_addRow 9 = .ok (.if_icmp .ge 19, 3) := by decide +kernel
theorem dX7_addRow_12 : decode cX7_addRow 12 = .ok (.aload_n 0, 1) := by decide +kernel
theorem dX7_addRow_13 : decode cX7_addRow 13 = .ok (.aload_n 1, 1) := by decide +kernel
theorem dX7_addRow_14 : decode cX7_addRow 14 = .ok (.getfield 9, 3) := by decide +kernel
theorem dX7_addRow_17 : decode cX7_addRow 17 = .ok (.iload_n 3, 1) := by decide +kernel
theorem dX7_addRow_18 : decode cX7_addRow 18 = .ok (.baload, 1) := by decide +kernel
theorem dX7_addRow_19 : decode cX7_addRow 19 = .ok (.invokevirtual 19, 3) := by decide +kernel
theorem dX7_addRow_22 : decode cX7_addRow 22 = .ok (.iinc 3 1, 3) := by decide +kernel
theorem dX7_addRow_25 : decode cX7_addRow 25 = .ok (.goto (-18), 3) := by decide +kernel
theorem dX7_addRow_28 : decode cX7_addRow 28 = .ok (.return_, 1) := by decide +kernel
set_option maxRecDepth 20000 in
theorem ggX7_addInverse_X7_add : GoodIn wsX7_addInverse wsX7_add := goodIn_ca (goodIn_r _ [7, 1, 2, 8, 9] (by decide +kernel) (by decide +kernel)) (goodIn_sub (fun _ h => List.mem_cons_of_mem _ (List.mem_append_right _ h)) (by decide +kernel))
set_option maxRecDepth 20000 in
theorem gX7_addInverse_X7_add : GoodIn wsX7_addInverse (wsV RX7 19 RX7 yX7_add wsX7_add) := goodIn_app (goodIn_of _ (by decide +kernel)) ggX7_addInverse_X7_add
theorem dX7_addInverse_0 : decode cX7_addInverse 0 = .ok (.aload_n 1, 1) := by decide +kernel
theorem dX7_addInverse_1 : decode cX7_addInverse 1 = .ok (.getfield 15, 3) := by decide +kernel
theorem dX7_addInverse_4 : decode cX7_addInverse 4 = .ok (.iconst 1, 1) := by decide +kernel
theorem dX7_addInverse_5 : decode cX7_addInverse 5 = .ok (.isub, 1) := by decide +kernel
theorem dX7_addInverse_6 : decode cX7_addInverse 6 = .ok (.istore_n 2, 1) := by decide +kernel
theorem dX7_addInverse_7 : decode cX7_addInverse 7 = .ok (.iload_n 2, 1) := by decide +kernel
theorem dX7_addInverse_8 : decode cX7_addInverse 8 = .ok (.ifCond .lt 21, 3) := by decide +kernel
theorem dX7_addInverse_11 : decode cX7_addInverse 11 = .ok (.aload_n 0, 1) := by decide +kernel
theorem dX7_addInverse_12 : decode cX7_addInverse 12 = .ok (.aload_n 1, 1) := by decide +kernel
theorem dX7_addInverse_13 : decode cX7_addInverse 13 = .ok (.getfield 9, 3) := by decide +kernel
theorem dX7_addInverse_16 : decode cX7_addInverse 16 = .ok (.iload_n 2, 1) := by decide +kernel
theorem dX7_addInverse_17 : decode cX7_addInverse 17 = .ok (.baload, 1) := by decide +kernel
theorem dX7_addInverse_18 : decode cX7_addInverse 18 = .ok (.iconst 1, 1) := by decide +kernel
theorem dX7_addInverse_19 : decode cX7_addInverse 19 = .ok (.ixor, 1) := by decide +kernel
theorem dX7_addInverse_20 : decode cX7_addInverse 20 = .ok (.invokevirtual 19, 3) := by decide +kernel
theorem dX7_addInverse_23 : decode cX7_addInverse 23 = .ok (.iinc 2 (-1), 3) := by decide +kernel
theorem dX7_addInverse_26 : decode cX7_addInverse 26 = .ok (.goto (-19), 3) := by decide +kernel
theorem dX7_addInverse_29 : decode cX7_addInverse 29 = .ok (.return_, 1) := by decide +kernel
theorem dX7_set_0 : decode cX7_set 0 = .ok (.aload_n 0, 1) := by decide +kernel
theorem dX7_set_1 : decode cX7_set 1 = .ok (.aload_n 1, 1) := by decide +kernel
theorem dX7_set_2 : decode cX7_set 2 = .ok (.getfield 15, 3) := by decide +kernel
theorem dX7_set_5 : decode cX7_set 5 = .ok (.aload_n 0, 1) := by decide +kernel
theorem dX7_set_6 : decode cX7_set 6 = .ok (.getfield 9, 3) := by decide +kernel
theorem dX7_set_9 : decode cX7_set 9 = .ok (.arraylength, 1) := by decide +kernel
theorem dX7_set_10 : decode cX7_set 10 = .ok (.if_icmp .ge 10, 3) := by decide +kernel
theorem dX7_set_13 : decode cX7_set 13 = .ok (.aload_n 1, 1) := by decide +kernel
theorem dX7_set_14 : decode cX7_set 14 = .ok (.getfield 15, 3) := by decide +kernel
theorem dX7_set_17 : decode cX7_set 17 = .ok (.goto 8, 3) := by decide +kernel
theorem dX7_set_20 : decode cX7_set 20 = .ok (.aload_n 0, 1) := by decide +kernel
theorem dX7_set_21 : decode cX7_set 21 = .ok (.getfield 9, 3) := by decide +kernel
theorem dX7_set_24 : decode cX7_set 24 = .ok (.arraylength, 1) := by decide +kernel
theorem dX7_set_25 : decode cX7_set 25 = .ok (.putfield 15, 3) := by decide +kernel
theorem dX7_set_28 : decode cX7_set 28 = .ok (.iconst 0, 1) := by decide +kernel
theorem dX7_set_29 : decode cX7_set 29 = .ok (.istore_n 2, 1) := by decide +kernel
theorem dX7_set_30 : decode cX7_set 30 = .ok (.iload_n 2, 1) := by decide +kernel
theorem dX7_set_31 : decode cX7_set 31 = .ok (.aload_n 0, 1) := by decide +kernel
theorem dX7_set_32 : decode cX7_set 32 = .ok (.getfield 15, 3) := by decide +kernel
theorem dX7_set_35 : decode cX7_set 35 = .ok (.if_icmp .ge 21, 3) := by decide +kernel
theorem dX7_set_38 : decode cX7_set 38 = .ok (.aload_n 0, 1) := by decide +kernel
theorem dX7_set_39 : decode cX7_set 39 = .ok (.getfield 9, 3) := by decide +kernel
theorem dX7_set_42 : decode cX7_set 42 = .ok (.iload_n 2, 1) := by decide +kernel
theorem dX7_set_43 : decode cX7_set 43 = .ok (.aload_n 1, 1) := by decide +kernel
theorem dX7_set_44 : decode cX7_set 44 = .ok (.getfield 9, 3) := by decide +kernel
theorem dX7_set_47 : decode cX7_set 47 = .ok (.iload_n 2, 1) := by decide +kernel
theorem dX7_set_48 : decode cX7_set 48 = .ok (.baload, 1) := by decide +kernel
theorem dX7_set_49 : decode cX7_set 49 = .ok (.bastore, 1) := by decide +kernel
theorem dX7_set_50 : decode cX7_set 50 = .ok (.iinc 2 1, 3) := by decide +kernel
theorem dX7_set_53 : decode cX7_set 53 = .ok (.goto (-23), 3) := by decide +kernel
theorem dX7_set_56 : decode cX7_set 56 = .ok (.return_, 1) := by decide +kernel
theorem dX7_orderTo_0 : decode cX7_orderTo 0 = .ok (.aload_n 0, 1) := by decide +kernel
theorem dX7_orderTo_1 : decode cX7_orderTo 1 = .ok (.getfield 15, 3) := by decide +kernel
theorem dX7_orderTo_4 : decode cX7_orderTo 4 = .ok (.aload_n 1, 1) := by decide +kernel
theorem dX7_orderTo_5 : decode cX7_orderTo 5 = .ok (.getfield 15, 3) := by decide +kernel
theorem dX7_orderTo_8 : decode cX7_orderTo 8 = .ok (.if_icmp .eq 20, 3) := by decide +kernel
theorem dX7_orderTo_11 : decode cX7_orderTo 11 = .ok (.aload_n 0, 1) := by decide +kernel
theorem dX7_orderTo_12 : decode cX7_orderTo 12 = .ok (.getfield 15, 3) := by decide +kernel
theorem dX7_orderTo_15 : decode cX7_orderTo 15 = .ok (.aload_n 1, 1) := by decide +kernel
theorem dX7_orderTo_16 : decode cX7_orderTo 16 = .ok (.getfield 15, 3) := by decide +kernel
theorem dX7_orderTo_19 : decode cX7_orderTo 19 = .ok (.if_icmp .ge 7, 3) := by decide +kernel
theorem dX7_orderTo_22 : decode cX7_orderTo 22 = .ok (.iconst (-1), 1) := by decide +kernel
theorem dX7_orderTo_23 : decode cX7_orderTo 23 = .ok (.goto 4, 3) := by decide +kernel
theorem dX7_orderTo_26 : decode cX7_orderTo 26 = .ok (.iconst 1, 1) := by decide +kernel
theorem dX7_orderTo_27 : decode cX7_orderTo 27 = .ok (.ireturn, 1) := by decide +kernel
theorem dX7_orderTo_28 : decode cX7_orderTo 28 = .ok (.iconst 0, 1) := by decide +kernel
theorem dX7_orderTo_29 : decode cX7_orderTo 29 = .ok (.istore_n 2, 1) := by decide +kernel
theorem dX7_orderTo_30 : decode cX7_orderTo 30 = .ok (.iload_n 2, 1) := by decide +kernel
theorem dX7_orderTo_31 : decode cX7_orderTo 31 = .ok (.aload_n 0, 1) := by decide +kernel
theorem dX7_orderTo_32 : decode cX7_orderTo 32 = .ok (.getfield 15, 3) := by decide +kernel
theorem dX7_orderTo_35 : decode cX7_orderTo 35 = .ok (.if_icmp .ge 45, 3) := by decide +kernel
theorem dX7_orderTo_38 : decode cX7_orderTo 38 = .ok (.aload_n 0, 1) := by decide +kernel
theorem dX7_orderTo_39 : decode cX7_orderTo 39 = .ok (.getfield 9, 3) := by decide +kernel
theorem dX7_orderTo_42 : decode cX7_orderTo 42 = .ok (.iload_n 2, 1) := by decide +kernel
theorem dX7_orderTo_43 : decode cX7_orderTo 43 = .ok (.baload, 1) := by decide +kernel
theorem dX7_orderTo_44 : decode cX7_orderTo 44 = .ok (.aload_n 1, 1) := by decide +kernel
theorem dX7_orderTo_45 : decode cX7_orderTo 45 = .ok (.getfield 9, 3) := by decide +kernel
theorem dX7_orderTo_48 : decode cX7_orderTo 48 = .ok (.iload_n 2, 1) := by decide +kernel
theorem dX7_orderTo_49 : decode cX7_orderTo 49 = .ok (.baload, 1) := by decide +kernel
theorem dX7_orderTo_50 : decode cX7_orderTo 50 = .ok (.if_icmp .eq 24, 3) := by decide +kernel
theorem dX7_orderTo_53 : decode cX7_orderTo 53 = .ok (.aload_n 0, 1) := by decide +kernel
theorem dX7_orderTo_54 : decode cX7_orderTo 54 = .ok (.getfield 9, 3) := by decide +kernel
theorem dX7_orderTo_57 : decode cX7_orderTo 57 = .ok (.iload_n 2, 1) := by decide +kernel
theorem dX7_orderTo_58 : decode cX7_orderTo 58 = .ok (.baload, 1) := by decide +kernel
theorem dX7_orderTo_59 : decode cX7_orderTo 59 = .ok (.aload_n 1, 1) := by decide +kernel
theorem dX7_orderTo_60 : decode cX7_orderTo 60 = .ok (.getfield 9, 3) := by decide +kernel
theorem dX7_orderTo_63 : decode cX7_orderTo 63 = .ok (.iload_n 2, 1) := by decide +kernel
theorem dX7_orderTo_64 : decode cX7_orderTo 64 = .ok (.baload, 1) := by decide +kernel
theorem dX7_orderTo_65 : decode cX7_orderTo 65 = .ok (.if_icmp .ge 7, 3) := by decide +kernel
theorem dX7_orderTo_68 : decode cX7_orderTo 68 = .ok (.iconst (-1), 1) := by decide +kernel
theorem dX7_orderTo_69 : decode cX7_orderTo 69 = .ok (.goto 4, 3) := by decide +kernel
theorem dX7_orderTo_72 : decode cX7_orderTo 72 = .ok (.iconst 1, 1) := by decide +kernel
theorem dX7_orderTo_73 : decode cX7_orderTo 73 = .ok (.ireturn, 1) := by decide +kernel
theorem dX7_orderTo_74 : decode cX7_orderTo 74 = .ok (.iinc 2 1, 3) := by decide +kernel
theorem dX7_orderTo_77 : decode cX7_orderTo 77 = .ok (.goto (-47), 3) := by decide +kernel
theorem dX7_orderTo_80 : decode cX7_orderTo 80 = .ok (.iconst 0, 1) := by decide +kernel
theorem dX7_orderTo_81 : decode cX7_orderTo 81 = .ok (.ireturn, 1) := by decide +kernel
theorem dX7_sumOf_0 : decode cX7_sumOf 0 = .ok (.iconst 0, 1) := by decide +kernel
theorem dX7_sumOf_1 : decode cX7_sumOf 1 = .ok (.istore_n 2, 1) := by decide +kernel
theorem dX7_sumOf_2 : decode cX7_sumOf 2 = .ok (.iconst 0, 1) := by decide +kernel
theorem dX7_sumOf_3 : decode cX7_sumOf 3 = .ok (.istore_n 3, 1) := by decide +kernel
theorem dX7_sumOf_4 : decode cX7_sumOf 4 = .ok (.iload_n 3, 1) := by decide +kernel
theorem dX7_sumOf_5 : decode cX7_sumOf 5 = .ok (.aload_n 0, 1) := by decide +kernel
theorem dX7_sumOf_6 : decode cX7_sumOf 6 = .ok (.getfield 15, 3) := by decide +kernel
theorem dX7_sumOf_9 : decode cX7_sumOf 9 = .ok (.if_icmp .ge 40, 3) := by decide +kernel
theorem dX7_sumOf_12 : decode cX7_sumOf 12 = .ok (.aload_n 0, 1) := by decide +kernel
theorem dX7_sumOf_13 : decode cX7_sumOf 13 = .ok (.getfield 9, 3) := by decide +kernel
theorem dX7_sumOf_16 : decode cX7_sumOf 16 = .ok (.iload_n 3, 1) := by decide +kernel
theorem dX7_sumOf_17 : decode cX7_sumOf 17 = .ok (.baload, 1) := by decide +kernel
theorem dX7_sumOf_18 : decode cX7_sumOf 18 = .ok (.iload_n 1, 1) := by decide +kernel
theorem dX7_sumOf_19 : decode cX7_sumOf 19 = .ok (.if_icmp .ne 9, 3) := by decide +kernel
theorem dX7_sumOf_22 : decode cX7_sumOf 22 = .ok (.iinc 2 1, 3) := by decide +kernel
theorem dX7_sumOf_25 : decode cX7_sumOf 25 = .ok (.goto 18, 3) := by decide +kernel
theorem dX7_sumOf_28 : decode cX7_sumOf 28 = .ok (.aload_n 0, 1) := by decide +kernel
theorem dX7_sumOf_29 : decode cX7_sumOf 29 = .ok (.getfield 9, 3) := by decide +kernel
theorem dX7_sumOf_32 : decode cX7_sumOf 32 = .ok (.iload_n 3, 1) := by decide +kernel
theorem dX7_sumOf_33 : decode cX7_sumOf 33 = .ok (.baload, 1) := by decide +kernel
theorem dX7_sumOf_34 : decode cX7_sumOf 34 = .ok (.iload_n 1, 1) := by decide +kernel
theorem dX7_sumOf_35 : decode cX7_sumOf 35 = .ok (.iconst 1, 1) := by decide +kernel
theorem dX7_sumOf_36 : decode cX7_sumOf 36 = .ok (.ixor, 1) := by decide +kernel
theorem dX7_sumOf_37 : decode cX7_sumOf 37 = .ok (.if_icmp .ne 6, 3) := by decide +kernel
theorem dX7_sumOf_40 : decode cX7_sumOf 40 = .ok (.iinc 2 (-1), 3) := by decide +kernel
theorem dX7_sumOf_43 : decode cX7_sumOf 43 = .ok (.iinc 3 1, 3) := by decide +kernel
theorem dX7_sumOf_46 : decode cX7_sumOf 46 = .ok (.goto (-42), 3) := by decide +kernel
theorem dX7_sumOf_49 : decode cX7_sumOf 49 = .ok (.iload_n 2, 1) := by decide +kernel
theorem dX7_sumOf_50 : decode cX7_sumOf 50 = .ok (.ireturn, 1) := by decide +kernel
theorem dX7_isCancelled_0 : decode cX7_isCancelled 0 = .ok (.iconst 1, 1) := by decide +kernel
theorem dX7_isCancelled_1 : decode cX7_isCancelled 1 = .ok (.istore_n 1, 1) := by decide +kernel
theorem dX7_isCancelled_2 : decode cX7_isCancelled 2 = .ok (.iload_n 1, 1) := by decide +kernel
theorem dX7_isCancelled_3 : decode cX7_isCancelled 3 = .ok (.aload_n 0, 1) := by decide +kernel
theorem dX7_isCancelled_4 : decode cX7_isCancelled 4 = .ok (.getfield 15, 3) := by decide +kernel
theorem dX7_isCancelled_7 : decode cX7_isCancelled 7 = .ok (.if_icmp .ge 30, 3) := by decide +kernel
theorem dX7_isCancelled_10 : decode cX7_isCancelled 10 = .ok (.aload_n 0, 1) := by decide +kernel
theorem dX7_isCancelled_11 : decode cX7_isCancelled 11 = .ok (.getfield 9, 3) := by decide +kernel
theorem dX7_isCancelled_14 : decode cX7_isCancelled 14 = .ok (.iload_n 1, 1) := by decide +kernel
theorem dX7_isCancelled_15 : decode cX7_isCancelled 15 = .ok (.iconst 1, 1) := by decide +kernel
theorem dX7_isCancelled_16 : decode cX7_isCancelled 16 = .ok (.isub, 1) := by decide +kernel
theorem dX7_isCancelled_17 : decode cX7_isCancelled 17 = .ok (.baload, 1) := by decide +kernel
theorem dX7_isCancelled_18 : decode cX7_isCancelled 18 = .ok (.aload_n 0, 1) := by decide +kernel
theorem dX7_isCancelled_19 : decode cX7_isCancelled 19 = .ok (.getfield 9, 3) := by decide +kernel
theorem dX7_isCancelled_22 : decode cX7_isCancelled 22 = .ok (.iload_n 1, 1) := by decide +kernel
theorem dX7_isCancelled_23 : decode cX7_isCancelled 23 = .ok (.baload, 1) := by decide +kernel
theorem dX7_isCancelled_24 : decode cX7_isCancelled 24 = .ok (.iconst 1, 1) := by decide +kernel
theorem dX7_isCancelled_25 : decode cX7_isCancelled 25 = .ok (.ixor, 1) := by decide +kernel
theorem dX7_isCancelled_26 : decode cX7_isCancelled 26 = .ok (.if_icmp .ne 5, 3) := by decide +kernel
theorem dX7_isCancelled_29 : decode cX7_isCancelled 29 = .ok (.iconst 0, 1) := by decide +kernel
theorem dX7_isCancelled_30 : decode cX7_isCancelled 30 = .ok (.ireturn, 1) := by decide +kernel
theorem dX7_isCancelled_31 : decode cX7_isCancelled 31 = .ok (.iinc 1 1, 3) := by decide +kernel
theorem dX7_isCancelled_34 : decode cX7_isCancelled 34 = .ok (.goto (-32), 3) := by decide +kernel
theorem dX7_isCancelled_37 : decode cX7_isCancelled 37 = .ok (.iconst 1, 1) := by decide +kernel
theorem dX7_isCancelled_38 : decode cX7_isCancelled 38 = .ok (.ireturn, 1) := by decide +kernel
theorem dX7_coreStart_0 : decode cX7_coreStart 0 = .ok (.iconst 0, 1) := by decide +kernel
theorem dX7_coreStart_1 : decode cX7_coreStart 1 = .ok (.istore_n 1, 1) := by decide +kernel
theorem dX7_coreStart_2 : decode cX7_coreStart 2 = .ok (.iload_n 1, 1) := by decide +kernel
theorem dX7_coreStart_3 : decode cX7_coreStart 3 = .ok (.aload_n 0, 1) := by decide +kernel
theorem dX7_coreStart_4 : decode cX7_coreStart 4 = .ok (.getfield 15, 3) := by decide +kernel
theorem dX7_coreStart_7 : decode cX7_coreStart 7 = .ok (.iconst 1, 1) := by decide +kernel
theorem dX7_coreStart_8 : decode cX7_coreStart 8 = .ok (.isub, 1) := by decide +kernel
theorem dX7_coreStart_9 : decode cX7_coreStart 9 = .ok (.iload_n 1, 1) := by decide +kernel
theorem dX7_coreStart_10 : decode cX7_coreStart 10 = .ok (.isub, 1) := by decide +kernel
theorem dX7_coreStart_11 : decode cX7_coreStart 11 = .ok (.if_icmp .ge 33, 3) := by decide +kernel
theorem dX7_coreStart_14 : decode cX7_coreStart 14 = .ok (.aload_n 0, 1) := by decide +kernel
theorem dX7_coreStart_15 : decode cX7_coreStart 15 = .ok (.getfield 9, 3) := by decide +kernel
theorem dX7_coreStart_18 : decode cX7_coreStart 18 = .ok (.iload_n 1, 1) := by decide +kernel
theorem dX7_coreStart_19 : decode cX7_coreStart 19 = .ok (.baload, 1) := by decide +kernel
theorem dX7_coreStart_20 : decode cX7_coreStart 20 = .ok (.aload_n 0, 1) := by decide +kernel
theorem dX7_coreStart_21 : decode cX7_coreStart 21 = .ok (.getfield 9, 3) := by decide +kernel
theorem dX7_coreStart_24 : decode cX7_coreStart 24 = .ok (.aload_n 0, 1) := by decide +kernel
theorem dX7_coreStart_25 : decode cX7_coreStart 25 = .ok (.getfield 15, 3) := by decide +kernel
theorem dX7_coreStart_28 : decode cX7_coreStart 28 = .ok (.iconst 1, 1) := by decide +kernel
theorem dX7_coreStart_29 : decode cX7_coreStart 29 = .ok (.isub, 1) := by decide +kernel
theorem dX7_coreStart_30 : decode cX7_coreStart 30 = .ok (.iload_n 1, 1) := by decide +kernel
theorem dX7_coreStart_31 : decode cX7_coreStart 31 = .ok (.isub, 1) := by decide +kernel
theorem dX7_coreStart_32 : decode cX7_coreStart 32 = .ok (.baload, 1) := by decide +kernel
theorem dX7_coreStart_33 : decode cX7_coreStart 33 = .ok (.iconst 1, 1) := by decide +kernel
theorem dX7_coreStart_34 : decode cX7_coreStart 34 = .ok (.ixor, 1) := by decide +kernel
theorem dX7_coreStart_35 : decode cX7_coreStart 35 = .ok (.if_icmp .ne 9, 3) := by decide +kernel
theorem dX7_coreStart_38 : decode cX7_coreStart 38 = .ok (.iinc 1 1, 3) := by decide +kernel
theorem dX7_coreStart_41 : decode cX7_coreStart 41 = .ok (.goto (-39), 3) := by decide +kernel
theorem dX7_coreStart_44 : decode cX7_coreStart 44 = .ok (.iload_n 1, 1) := by decide +kernel
theorem dX7_coreStart_45 : decode cX7_coreStart 45 = .ok (.ireturn, 1) := by decide +kernel
set_option maxRecDepth 20000 in
theorem ggX7_coreSize_X7_coreStart : GoodIn wsX7_coreSize wsX7_coreStart := goodIn_ca (goodIn_r _ [6, 1, 7, 8, 9] (by decide +kernel) (by decide +kernel)) (goodIn_sub (fun _ h => List.mem_cons_of_mem _ (List.mem_append_right _ h)) (by decide +kernel))
set_option maxRecDepth 20000 in
theorem gX7_coreSize_X7_coreStart : GoodIn wsX7_coreSize (wsV RX7 23 RX7 yX7_coreStart wsX7_coreStart) := goodIn_app (goodIn_of _ (by decide +kernel)) ggX7_coreSize_X7_coreStart
theorem dX7_coreSize_0 : decode cX7_coreSize 0 = .ok (.aload_n 0, 1) := by decide +kernel
theorem dX7_coreSize_1 : decode cX7_coreSize 1 = .ok (.getfield 15, 3) := by decide +kernel
theorem dX7_coreSize_4 : decode cX7_coreSize 4 = .ok (.iconst 2, 1) := by decide +kernel
theorem dX7_coreSize_5 : decode cX7_coreSize 5 = .ok (.aload_n 0, 1) := by decide +kernel
theorem dX7_coreSize_6 : decode cX7_coreSize 6 = .ok (.invokevirtual 23, 3) := by decide +kernel
theorem dX7_coreSize_9 : decode cX7_coreSize 9 = .ok (.imul, 1) := by decide +kernel
theorem dX7_coreSize_10 : decode cX7_coreSize 10 = .ok (.isub, 1) := by decide +kernel
theorem dX7_coreSize_11 : decode cX7_coreSize 11 = .ok (.ireturn, 1) := by decide +kernel
set_option maxRecDepth 20000 in
theorem ggX7_corePeriod_X7_coreStart : GoodIn wsX7_corePeriod wsX7_coreStart := goodIn_ca (goodIn_r _ [6, 1, 7, 12, 13] (by decide +kernel) (by decide +kernel)) (goodIn_sub (fun _ h => List.mem_cons_of_mem _ (List.mem_append_right _ h)) (by decide +kernel))
set_option maxRecDepth 20000 in
theorem gX7_corePeriod_X7_coreStart : GoodIn wsX7_corePeriod (wsV RX7 23 RX7 yX7_coreStart wsX7_coreStart) := goodIn_app (goodIn_of _ (by decide +kernel)) ggX7_corePeriod_X7_coreStart
set_option maxRecDepth 20000 in
theorem ggX7_corePeriod_X7_repeats : GoodIn wsX7_corePeriod wsX7_repeats := goodIn_ca (goodIn_r _ [11, 7, 12, 13] (by decide +kernel) (by decide +kernel)) (goodIn_sub (fun _ h => List.mem_cons_of_mem _ (List.mem_append_right _ h)) (by decide +kernel))
set_option maxRecDepth 20000 in
theorem gX7_corePeriod_X7_repeats : GoodIn wsX7_corePeriod (wsV RX7 27 RX7 yX7_repeats wsX7_repeats) := goodIn_app (goodIn_of _ (by decide +kernel)) ggX7_corePeriod_X7_repeats
theorem dX7_corePeriod_0 : decode cX7_corePeriod 0 = .ok (.aload_n 0, 1) := by decide +kernel
theorem dX7_corePeriod_1 : decode cX7_corePeriod 1 = .ok (.invokevirtual 23, 3) := by decide +kernel
theorem dX7_corePeriod_4 : decode cX7_corePeriod 4 = .ok (.istore_n 1, 1) := by decide +kernel
theorem dX7_corePeriod_5 : decode cX7_corePeriod 5 = .ok (.aload_n 0, 1) := by decide +kernel
theorem dX7_corePeriod_6 : decode cX7_corePeriod 6 = .ok (.getfield 15, 3) := by decide +kernel
theorem dX7_corePeriod_9 : decode cX7_corePeriod 9 = .ok (.iconst 2, 1) := by decide +kernel
theorem dX7_corePeriod_10 : decode cX7_corePeriod 10 = .ok (.iload_n 1, 1) := by decide +kernel
theorem dX7_corePeriod_11 : decode cX7_corePeriod 11 = .ok (.imul, 1) := by decide +kernel
theorem dX7_corePeriod_12 : decode cX7_corePeriod 12 = .ok (.isub, 1) := by decide +kernel
theorem dX7_corePeriod_13 : decode cX7_corePeriod 13 = .ok (.istore_n 2, 1) := by decide +kernel
theorem dX7_corePeriod_14 : decode cX7_corePeriod 14 = .ok (.iconst 1, 1) := by decide +kernel
theorem dX7_corePeriod_15 : decode cX7_corePeriod 15 = .ok (.istore_n 3, 1) := by decide +kernel
theorem dX7_corePeriod_16 : decode cX7_corePeriod 16 = .ok (.iload_n 3, 1) := by decide +kernel
theorem dX7_corePeriod_17 : decode cX7_corePeriod 17 = .ok (.iload_n 2, 1) := by decide +kernel
theorem dX7_corePeriod_18 : decode cX7_corePeriod 18 = .ok (.if_icmp .ge 27, 3) := by decide +kernel
theorem dX7_corePeriod_21 : decode cX7_corePeriod 21 = .ok (.iload_n 2, 1) := by decide +kernel
theorem dX7_corePeriod_22 : decode cX7_corePeriod 22 = .ok (.iload_n 3, 1) := by decide +kernel
theorem dX7_corePeriod_23 : decode cX7_corePeriod 23 = .ok (.irem, 1) := by decide +kernel
theorem dX7_corePeriod_24 : decode cX7_corePeriod 24 = .ok (.ifCond .ne 15, 3) := by decide +kernel
theorem dX7_corePeriod_27 : decode cX7_corePeriod 27 = .ok (.aload_n 0, 1) := by decide +kernel
theorem dX7_corePeriod_28 : decode cX7_corePeriod 28 = .ok (.iload_n 1, 1) := by decide +kernel
theorem dX7_corePeriod_29 : decode cX7_corePeriod 29 = .ok (.iload_n 2, 1) := by decide +kernel
theorem dX7_corePeriod_30 : decode cX7_corePeriod 30 = .ok (.iload_n 3, 1) := by decide +kernel
theorem dX7_corePeriod_31 : decode cX7_corePeriod 31 = .ok (.invokevirtual 27, 3) := by decide +kernel
theorem dX7_corePeriod_34 : decode cX7_corePeriod 34 = .ok (.ifCond .eq 5, 3) := by decide +kernel
theorem dX7_corePeriod_37 : decode cX7_corePeriod 37 = .ok (.iload_n 3, 1) := by decide +kernel
theorem dX7_corePeriod_38 : decode cX7_corePeriod 38 = .ok (.ireturn, 1) := by decide +kernel
theorem dX7_corePeriod_39 : decode cX7_corePeriod 39 = .ok (.iinc 3 1, 3) := by decide +kernel
theorem dX7_corePeriod_42 : decode cX7_corePeriod 42 = .ok (.goto (-26), 3) := by decide +kernel
theorem dX7_corePeriod_45 : decode cX7_corePeriod 45 = .ok (.iload_n 2, 1) := by decide +kernel
theorem dX7_corePeriod_46 : decode cX7_corePeriod 46 = .ok (.ireturn, 1) := by decide +kernel
theorem dX7_repeats_0 : decode cX7_repeats 0 = .ok (.iload_n 1, 1) := by decide +kernel
theorem dX7_repeats_1 : decode cX7_repeats 1 = .ok (.iload_n 3, 1) := by decide +kernel
theorem dX7_repeats_2 : decode cX7_repeats 2 = .ok (.iadd, 1) := by decide +kernel
theorem dX7_repeats_3 : decode cX7_repeats 3 = .ok (.istore 4, 2) := by decide +kernel
theorem dX7_repeats_5 : decode cX7_repeats 5 = .ok (.iload 4, 2) := by decide +kernel
theorem dX7_repeats_7 : decode cX7_repeats 7 = .ok (.iload_n 1, 1) := by decide +kernel
theorem dX7_repeats_8 : decode cX7_repeats 8 = .ok (.iload_n 2, 1) := by decide +kernel
theorem dX7_repeats_9 : decode cX7_repeats 9 = .ok (.iadd, 1) := by decide +kernel
theorem dX7_repeats_10 : decode cX7_repeats 10 = .ok (.if_icmp .ge 30, 3) := by decide +kernel
theorem dX7_repeats_13 : decode cX7_repeats 13 = .ok (.aload_n 0, 1) := by decide +kernel
theorem dX7_repeats_14 : decode cX7_repeats 14 = .ok (.getfield 9, 3) := by decide +kernel
theorem dX7_repeats_17 : decode cX7_repeats 17 = .ok (.iload 4, 2) := by decide +kernel
theorem dX7_repeats_19 : decode cX7_repeats 19 = .ok (.baload, 1) := by decide +kernel
theorem dX7_repeats_20 : decode cX7_repeats 20 = .ok (.aload_n 0, 1) := by decide +kernel
theorem dX7_repeats_21 : decode cX7_repeats 21 = .ok (.getfield 9, 3) := by decide +kernel
theorem dX7_repeats_24 : decode cX7_repeats 24 = .ok (.iload 4, 2) := by decide +kernel
theorem dX7_repeats_26 : decode cX7_repeats 26 = .ok (.iload_n 3, 1) := by decide +kernel
theorem dX7_repeats_27 : decode cX7_repeats 27 = .ok (.isub, 1) := by decide +kernel
theorem dX7_repeats_28 : decode cX7_repeats 28 = .ok (.baload, 1) := by decide +kernel
theorem dX7_repeats_29 : decode cX7_repeats 29 = .ok (.if_icmp .eq 5, 3) := by decide +kernel
theorem dX7_repeats_32 : decode cX7_repeats 32 = .ok (.iconst 0, 1) := by decide +kernel
theorem dX7_repeats_33 : decode cX7_repeats 33 = .ok (.ireturn, 1) := by decide +kernel
theorem dX7_repeats_34 : decode cX7_repeats 34 = .ok (.iinc 4 1, 3) := by decide +kernel
theorem dX7_repeats_37 : decode cX7_repeats 37 = .ok (.goto (-32), 3) := by decide +kernel
theorem dX7_repeats_40 : decode cX7_repeats 40 = .ok (.iconst 1, 1) := by decide +kernel
theorem dX7_repeats_41 : decode cX7_repeats 41 = .ok (.ireturn, 1) := by decide +kernel
set_option maxRecDepth 20000 in
theorem ggX7_turnOfCore_X7_coreSize : GoodIn wsX7_turnOfCore wsX7_coreSize := goodIn_ca (goodIn_r _ [5, 6, 7, 8, 9, 4, 10, 11, 16, 17] (by decide +kernel) (by decide +kernel)) (goodIn_sub (fun _ h => List.mem_cons_of_mem _ (List.mem_append_right _ h)) (by decide +kernel))
set_option maxRecDepth 20000 in
theorem gX7_turnOfCore_X7_coreSize : GoodIn wsX7_turnOfCore (wsV RX7 31 RX7 yX7_coreSize wsX7_coreSize) := goodIn_app (goodIn_of _ (by decide +kernel)) ggX7_turnOfCore_X7_coreSize
set_option maxRecDepth 20000 in
theorem ggX7_turnOfCore_X7_coreStart : GoodIn wsX7_turnOfCore wsX7_coreStart := goodIn_ca (goodIn_r _ [10, 6, 11, 16, 17] (by decide +kernel) (by decide +kernel)) (goodIn_sub (fun _ h => List.mem_cons_of_mem _ (List.mem_append_right _ h)) (by decide +kernel))
set_option maxRecDepth 20000 in
theorem gX7_turnOfCore_X7_coreStart : GoodIn wsX7_turnOfCore (wsV RX7 23 RX7 yX7_coreStart wsX7_coreStart) := goodIn_app (goodIn_of _ (by decide +kernel)) ggX7_turnOfCore_X7_coreStart
set_option maxRecDepth 20000 in
theorem ggX7_turnOfCore_X7_isTurned : GoodIn wsX7_turnOfCore wsX7_isTurned := goodIn_ca (goodIn_r _ [15, 11, 16, 17] (by decide +kernel) (by decide +kernel)) (goodIn_sub (fun _ h => List.mem_cons_of_mem _ (List.mem_append_right _ h)) (by decide +kernel))
set_option maxRecDepth 20000 in
theorem gX7_turnOfCore_X7_isTurned : GoodIn wsX7_turnOfCore (wsV RX7 34 RX7 yX7_isTurned wsX7_isTurned) := goodIn_app (goodIn_of _ (by decide +kernel)) ggX7_turnOfCore_X7_isTurned
theorem dX7_turnOfCore_0 : decode cX7_turnOfCore 0 = .ok (.aload_n 0, 1) := by decide +kernel
theorem dX7_turnOfCore_1 : decode cX7_turnOfCore 1 = .ok (.invokevirtual 31, 3) := by decide +kernel
theorem dX7_turnOfCore_4 : decode cX7_turnOfCore 4 = .ok (.istore_n 2, 1) := by decide +kernel
theorem dX7_turnOfCore_5 : decode cX7_turnOfCore 5 = .ok (.iload_n 2, 1) := by decide +kernel
theorem dX7_turnOfCore_6 : decode cX7_turnOfCore 6 = .ok (.aload_n 1, 1) := by decide +kernel
theorem dX7_turnOfCore_7 : decode cX7_turnOfCore 7 = .ok (.invokevirtual 31, 3) := by decide +kernel
theorem dX7_turnOfCore_10 : decode cX7_turnOfCore 10 = .ok (.if_icmp .eq 5, 3) := by decide +kernel
theorem dX7_turnOfCore_13 : decode cX7_turnOfCore 13 = .ok (.iconst (-1), 1) := by decide +kernel
theorem dX7_turnOfCore_14 : decode cX7_turnOfCore 14 = .ok (.ireturn, 1) := by decide +kernel
theorem dX7_turnOfCore_15 : decode cX7_turnOfCore 15 = .ok (.iload_n 2, 1) := by decide +kernel
theorem dX7_turnOfCore_16 : decode cX7_turnOfCore 16 = .ok (.ifCond .ne 5, 3) := by decide +kernel
theorem dX7_turnOfCore_19 : decode cX7_turnOfCore 19 = .ok (.iconst 0, 1) := by decide +kernel
theorem dX7_turnOfCore_20 : decode cX7_turnOfCore 20 = .ok (.ireturn, 1) := by decide +kernel
theorem dX7_turnOfCore_21 : decode cX7_turnOfCore 21 = .ok (.iconst 0, 1) := by decide +kernel
theorem dX7_turnOfCore_22 : decode cX7_turnOfCore 22 = .ok (.istore_n 3, 1) := by decide +kernel
theorem dX7_turnOfCore_23 : decode cX7_turnOfCore 23 = .ok (.iload_n 3, 1) := by decide +kernel
theorem dX7_turnOfCore_24 : decode cX7_turnOfCore 24 = .ok (.iload_n 2, 1) := by decide +kernel
theorem dX7_turnOfCore_25 : decode cX7_turnOfCore 25 = .ok (.if_icmp .ge 29, 3) := by decide +kernel
theorem dX7_turnOfCore_28 : decode cX7_turnOfCore 28 = .ok (.aload_n 0, 1) := by decide +kernel
theorem dX7_turnOfCore_29 : decode cX7_turnOfCore 29 = .ok (.aload_n 0, 1) := by decide +kernel
theorem dX7_turnOfCore_30 : decode cX7_turnOfCore 30 = .ok (.invokevirtual 23, 3) := by decide +kernel
theorem dX7_turnOfCore_33 : decode cX7_turnOfCore 33 = .ok (.aload_n 1, 1) := by decide +kernel
theorem dX7_turnOfCore_34 : decode cX7_turnOfCore 34 = .ok (.aload_n 1, 1) := by decide +kernel
theorem dX7_turnOfCore_35 : decode cX7_turnOfCore 35 = .ok (.invokevirtual 23, 3) := by decide +kernel
theorem dX7_turnOfCore_38 : decode cX7_turnOfCore 38 = .ok (.iload_n 3, 1) := by decide +kernel
theorem dX7_turnOfCore_39 : decode cX7_turnOfCore 39 = .ok (.iload_n 2, 1) := by decide +kernel
theorem dX7_turnOfCore_40 : decode cX7_turnOfCore 40 = .ok (.invokevirtual 34, 3) := by decide +kernel
theorem dX7_turnOfCore_43 : decode cX7_turnOfCore 43 = .ok (.ifCond .eq 5, 3) := by decide +kernel
theorem dX7_turnOfCore_46 : decode cX7_turnOfCore 46 = .ok (.iload_n 3, 1) := by decide +kernel
theorem dX7_turnOfCore_47 : decode cX7_turnOfCore 47 = .ok (.ireturn, 1) := by decide +kernel
theorem dX7_turnOfCore_48 : decode cX7_turnOfCore 48 = .ok (.iinc 3 1, 3) := by decide +kernel
theorem dX7_turnOfCore_51 : decode cX7_turnOfCore 51 = .ok (.goto (-28), 3) := by decide +kernel
theorem dX7_turnOfCore_54 : decode cX7_turnOfCore 54 = .ok (.iconst (-1), 1) := by decide +kernel
theorem dX7_turnOfCore_55 : decode cX7_turnOfCore 55 = .ok (.ireturn, 1) := by decide +kernel
theorem dX7_isTurned_0 : decode cX7_isTurned 0 = .ok (.iconst 0, 1) := by decide +kernel
theorem dX7_isTurned_1 : decode cX7_isTurned 1 = .ok (.istore 6, 2) := by decide +kernel
theorem dX7_isTurned_3 : decode cX7_isTurned 3 = .ok (.iload 6, 2) := by decide +kernel
theorem dX7_isTurned_5 : decode cX7_isTurned 5 = .ok (.iload 5, 2) := by decide +kernel
theorem dX7_isTurned_7 : decode cX7_isTurned 7 = .ok (.if_icmp .ge 60, 3) := by decide +kernel
theorem dX7_isTurned_10 : decode cX7_isTurned 10 = .ok (.iload 6, 2) := by decide +kernel
theorem dX7_isTurned_12 : decode cX7_isTurned 12 = .ok (.iload 4, 2) := by decide +kernel
theorem dX7_isTurned_14 : decode cX7_isTurned 14 = .ok (.iadd, 1) := by decide +kernel
theorem dX7_isTurned_15 : decode cX7_isTurned 15 = .ok (.iload 5, 2) := by decide +kernel
theorem dX7_isTurned_17 : decode cX7_isTurned 17 = .ok (.if_icmp .ge 11, 3) := by decide +kernel
theorem dX7_isTurned_20 : decode cX7_isTurned 20 = .ok (.iload 6, 2) := by decide +kernel
theorem dX7_isTurned_22 : decode cX7_isTurned 22 = .ok (.iload 4, 2) := by decide +kernel
theorem dX7_isTurned_24 : decode cX7_isTurned 24 = .ok (.iadd, 1) := by decide +kernel
theorem dX7_isTurned_25 : decode cX7_isTurned 25 = .ok (.goto 11, 3) := by decide +kernel
theorem dX7_isTurned_28 : decode cX7_isTurned 28 = .ok (.iload 6, 2) := by decide +kernel
theorem dX7_isTurned_30 : decode cX7_isTurned 30 = .ok (.iload 4, 2) := by decide +kernel
theorem dX7_isTurned_32 : decode cX7_isTurned 32 = .ok (.iadd, 1) := by decide +kernel
theorem dX7_isTurned_33 : decode cX7_isTurned 33 = .ok (.iload 5, 2) := by decide +kernel
theorem dX7_isTurned_35 : decode cX7_isTurned 35 = .ok (.isub, 1) := by decide +kernel
theorem dX7_isTurned_36 : decode cX7_isTurned 36 = .ok (.istore 7, 2) := by decide +kernel
theorem dX7_isTurned_38 : decode cX7_isTurned 38 = .ok (.aload_n 0, 1) := by decide +kernel
theorem dX7_isTurned_39 : decode cX7_isTurned 39 = .ok (.getfield 9, 3) := by decide +kernel
theorem dX7_isTurned_42 : decode cX7_isTurned 42 = .ok (.iload_n 1, 1) := by decide +kernel
theorem dX7_isTurned_43 : decode cX7_isTurned 43 = .ok (.iload 6, 2) := by decide +kernel
theorem dX7_isTurned_45 : decode cX7_isTurned 45 = .ok (.iadd, 1) := by decide +kernel
theorem dX7_isTurned_46 : decode cX7_isTurned 46 = .ok (.baload, 1) := by decide +kernel
theorem dX7_isTurned_47 : decode cX7_isTurned 47 = .ok (.aload_n 2, 1) := by decide +kernel
theorem dX7_isTurned_48 : decode cX7_isTurned 48 = .ok (.getfield 9, 3) := by decide +kernel
theorem dX7_isTurned_51 : decode cX7_isTurned 51 = .ok (.iload_n 3, 1) := by decide +kernel
theorem dX7_isTurned_52 : decode cX7_isTurned 52 = .ok (.iload 7, 2) := by decide +kernel
theorem dX7_isTurned_54 : decode cX7_isTurned 54 = .ok (.iadd, 1) := by decide +kernel
theorem dX7_isTurned_55 : decode cX7_isTurned 55 = .ok (.baload, 1) := by decide +kernel
theorem dX7_isTurned_56 : decode cX7_isTurned 56 = .ok (.if_icmp .eq 5, 3) := by decide +kernel
theorem dX7_isTurned_59 : decode cX7_isTurned 59 = .ok (.iconst 0, 1) := by decide +kernel
theorem dX7_isTurned_60 : decode cX7_isTurned 60 = .ok (.ireturn, 1) := by decide +kernel
theorem dX7_isTurned_61 : decode cX7_isTurned 61 = .ok (.iinc 6 1, 3) := by decide +kernel
theorem dX7_isTurned_64 : decode cX7_isTurned 64 = .ok (.goto (-61), 3) := by decide +kernel
theorem dX7_isTurned_67 : decode cX7_isTurned 67 = .ok (.iconst 1, 1) := by decide +kernel
theorem dX7_isTurned_68 : decode cX7_isTurned 68 = .ok (.ireturn, 1) := by decide +kernel
set_option maxRecDepth 20000 in
theorem ggX8_init_X7_init : GoodIn wsX8_init wsX7_init := goodIn_r _ [13, 14, 2, 3, 15, 16, 17, 18] (by decide +kernel) (by decide +kernel)
set_option maxRecDepth 20000 in
theorem gX8_init_X7_init : GoodIn wsX8_init (wsX7_init) := ggX8_init_X7_init
theorem dX8_init_0 : decode cX8_init 0 = .ok (.aload_n 0, 1) := by decide +kernel
theorem dX8_init_1 : decode cX8_init 1 = .ok (.invokespecial 3, 3) := by decide +kernel
theorem dX8_init_4 : decode cX8_init 4 = .ok (.aload_n 0, 1) := by decide +kernel
theorem dX8_init_5 : decode cX8_init 5 = .ok (.new 9, 3) := by decide +kernel
theorem dX8_init_8 : decode cX8_init 8 = .ok (.dup, 1) := by decide +kernel
theorem dX8_init_9 : decode cX8_init 9 = .ok (.sipush 180, 3) := by decide +kernel
theorem dX8_init_12 : decode cX8_init 12 = .ok (.invokespecial 11, 3) := by decide +kernel
theorem dX8_init_15 : decode cX8_init 15 = .ok (.putfield 14, 3) := by decide +kernel
theorem dX8_init_18 : decode cX8_init 18 = .ok (.aload_n 0, 1) := by decide +kernel
theorem dX8_init_19 : decode cX8_init 19 = .ok (.new 9, 3) := by decide +kernel
theorem dX8_init_22 : decode cX8_init 22 = .ok (.dup, 1) := by decide +kernel
theorem dX8_init_23 : decode cX8_init 23 = .ok (.bipush 60, 2) := by decide +kernel
theorem dX8_init_25 : decode cX8_init 25 = .ok (.invokespecial 11, 3) := by decide +kernel
theorem dX8_init_28 : decode cX8_init 28 = .ok (.putfield 20, 3) := by decide +kernel
theorem dX8_init_31 : decode cX8_init 31 = .ok (.aload_n 0, 1) := by decide +kernel
theorem dX8_init_32 : decode cX8_init 32 = .ok (.bipush 36, 2) := by decide +kernel
theorem dX8_init_34 : decode cX8_init 34 = .ok (.newarray .int, 2) := by decide +kernel
theorem dX8_init_36 : decode cX8_init 36 = .ok (.putfield 23, 3) := by decide +kernel
theorem dX8_init_39 : decode cX8_init 39 = .ok (.return_, 1) := by decide +kernel
