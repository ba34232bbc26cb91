theorem dX5_wall_7 : decode cX5_wall 7 = .ok (.invokevirtual 59, 3) := by decide +kernel
theorem dX5_wall_10 : decode cX5_wall 10 = .ok (.iload_n 3, 1) := by decide +kernel
theorem dX5_wall_11 : decode cX5_wall 11 = .ok (.iconst 0, 1) := by decide +kernel
theorem dX5_wall_12 : decode cX5_wall 12 = .ok (.bipush 100, 2) := by decide +kernel
theorem dX5_wall_14 : decode cX5_wall 14 = .ok (.invokestatic 62, 3) := by decide +kernel
theorem dX5_wall_17 : decode cX5_wall 17 = .ok (.iload_n 1, 1) := by decide +kernel
theorem dX5_wall_18 : decode cX5_wall 18 = .ok (.iload_n 2, 1) := by decide +kernel
theorem dX5_wall_19 : decode cX5_wall 19 = .ok (.if_icmp .ne 13, 3) := by decide +kernel
theorem dX5_wall_22 : decode cX5_wall 22 = .ok (.new 66, 3) := by decide +kernel
theorem dX5_wall_25 : decode cX5_wall 25 = .ok (.dup, 1) := by decide +kernel
theorem dX5_wall_26 : decode cX5_wall 26 = .ok (.ldc 68, 2) := by decide +kernel
theorem dX5_wall_28 : decode cX5_wall 28 = .ok (.invokespecial 70, 3) := by decide +kernel
theorem dX5_wall_31 : decode cX5_wall 31 = .ok (.athrow, 1) := by decide +kernel
theorem dX5_wall_32 : decode cX5_wall 32 = .ok (.aload_n 0, 1) := by decide +kernel
theorem dX5_wall_33 : decode cX5_wall 33 = .ok (.getfield 23, 3) := by decide +kernel
theorem dX5_wall_36 : decode cX5_wall 36 = .ok (.iload_n 1, 1) := by decide +kernel
theorem dX5_wall_37 : decode cX5_wall 37 = .ok (.iload_n 2, 1) := by decide +kernel
theorem dX5_wall_38 : decode cX5_wall 38 = .ok (.invokevirtual 73, 3) := by decide +kernel
theorem dX5_wall_41 : decode cX5_wall 41 = .ok (.istore 4, 2) := by decide +kernel
theorem dX5_wall_43 : decode cX5_wall 43 = .ok (.aload_n 0, 1) := by decide +kernel
theorem dX5_wall_44 : decode cX5_wall 44 = .ok (.getfield 23, 3) := by decide +kernel
theorem dX5_wall_47 : decode cX5_wall 47 = .ok (.iload_n 1, 1) := by decide +kernel
theorem dX5_wall_48 : decode cX5_wall 48 = .ok (.iload_n 2, 1) := by decide +kernel
theorem dX5_wall_49 : decode cX5_wall 49 = .ok (.iload_n 3, 1) := by decide +kernel
theorem dX5_wall_50 : decode cX5_wall 50 = .ok (.invokevirtual 76, 3) := by decide +kernel
theorem dX5_wall_53 : decode cX5_wall 53 = .ok (.iload 4, 2) := by decide +kernel
theorem dX5_wall_55 : decode cX5_wall 55 = .ok (.ireturn, 1) := by decide +kernel
set_option maxRecDepth 20000 in
theorem ggX5_value_X5_checkZone : GoodIn wsX5_value wsX5_checkZone := goodIn_ca (goodIn_r _ [8, 3, 9, 10, 11, 12, 13, 14, 15, 16, 7, 17, 18, 19, 29, 30, 31, 32, 33, 34, 35, 36, 37, 38, 39, 40, 41] (by decide +kernel) (by decide +kernel)) (goodIn_sub (fun _ h => List.mem_cons_of_mem _ (List.mem_append_right _ h)) (by decide +kernel))
set_option maxRecDepth 20000 in
theorem gX5_value_X5_checkZone : GoodIn wsX5_value (wsV RX5 59 RX5 yX5_checkZone wsX5_checkZone) := goodIn_app (goodIn_of _ (by decide +kernel)) ggX5_value_X5_checkZone
set_option maxRecDepth 20000 in
theorem ggX5_value_X5_checkWithin : GoodIn wsX5_value wsX5_checkWithin := goodIn_ca (goodIn_r _ [17, 18, 19] (by decide +kernel) (by decide +kernel)) (goodIn_sub (fun _ h => List.mem_cons_of_mem _ (List.mem_append_right _ h)) (by decide +kernel))
set_option maxRecDepth 20000 in
theorem gX5_value_X5_checkWithin : GoodIn wsX5_value (va_wsS RX5 62 yX5_checkWithin wsX5_checkWithin) := goodIn_app (goodIn_of _ (by decide +kernel)) ggX5_value_X5_checkWithin
set_option maxRecDepth 20000 in
theorem ggX5_value_X4_valueOf : GoodIn wsX5_value wsX4_valueOf := goodIn_r _ [23, 24, 35, 36, 37, 38, 39, 40, 41] (by decide +kernel) (by decide +kernel)
set_option maxRecDepth 20000 in
theorem gX5_value_X4_valueOf : GoodIn wsX5_value (wsV RX5 81 RX4 yX4_valueOf wsX4_valueOf) := goodIn_app (goodIn_of _ (by decide +kernel)) ggX5_value_X4_valueOf
set_option maxRecDepth 20000 in
theorem ggX5_value_X4_put : GoodIn wsX5_value wsX4_put := goodIn_r _ [28, 24, 35, 36, 37, 38, 39, 40, 41] (by decide +kernel) (by decide +kernel)
set_option maxRecDepth 20000 in
theorem gX5_value_X4_put : GoodIn wsX5_value (wsV RX5 85 RX4 yX4_put wsX4_put) := goodIn_app (goodIn_of _ (by decide +kernel)) ggX5_value_X4_put
theorem dX5_value_0 : decode cX5_value 0 = .ok (.aload_n 0, 1) := by decide +kernel
theorem dX5_value_1 : decode cX5_value 1 = .ok (.iload_n 1, 1) := by decide +kernel
theorem dX5_value_2 : decode cX5_value 2 = .ok (.invokevirtual 59, 3) := by decide +kernel
theorem dX5_value_5 : decode cX5_value 5 = .ok (.iload_n 2, 1) := by decide +kernel
theorem dX5_value_6 : decode cX5_value 6 = .ok (.ldc 79, 2) := by decide +kernel
theorem dX5_value_8 : decode cX5_value 8 = .ok (.ldc 80, 2) := by decide +kernel
theorem dX5_value_10 : decode cX5_value 10 = .ok (.invokestatic 62, 3) := by decide +kernel
theorem dX5_value_13 : decode cX5_value 13 = .ok (.aload_n 0, 1) := by decide +kernel
theorem dX5_value_14 : decode cX5_value 14 = .ok (.getfield 23, 3) := by decide +kernel
theorem dX5_value_17 : decode cX5_value 17 = .ok (.iload_n 1, 1) := by decide +kernel
theorem dX5_value_18 : decode cX5_value 18 = .ok (.invokevirtual 81, 3) := by decide +kernel
theorem dX5_value_21 : decode cX5_value 21 = .ok (.istore_n 3, 1) := by decide +kernel
theorem dX5_value_22 : decode cX5_value 22 = .ok (.aload_n 0, 1) := by decide +kernel
theorem dX5_value_23 : decode cX5_value 23 = .ok (.getfield 23, 3) := by decide +kernel
theorem dX5_value_26 : decode cX5_value 26 = .ok (.iload_n 1, 1) := by decide +kernel
theorem dX5_value_27 : decode cX5_value 27 = .ok (.iload_n 2, 1) := by decide +kernel
theorem dX5_value_28 : decode cX5_value 28 = .ok (.invokevirtual 85, 3) := by decide +kernel
theorem dX5_value_31 : decode cX5_value 31 = .ok (.iload_n 3, 1) := by decide +kernel
theorem dX5_value_32 : decode cX5_value 32 = .ok (.ireturn, 1) := by decide +kernel
set_option maxRecDepth 20000 in
theorem ggX5_fails_X5_checkWithin : GoodIn wsX5_fails wsX5_checkWithin := goodIn_ca (goodIn_r _ [7, 8, 9] (by decide +kernel) (by decide +kernel)) (goodIn_sub (fun _ h => List.mem_cons_of_mem _ (List.mem_append_right _ h)) (by decide +kernel))
set_option maxRecDepth 20000 in
theorem gX5_fails_X5_checkWithin : GoodIn wsX5_fails (va_wsS RX5 62 yX5_checkWithin wsX5_checkWithin) := goodIn_app (goodIn_of _ (by decide +kernel)) ggX5_fails_X5_checkWithin
set_option maxRecDepth 20000 in
theorem ggX5_fails_X5_checkZone : GoodIn wsX5_fails wsX5_checkZone := goodIn_ca (goodIn_r _ [13, 14, 15, 16, 17, 18, 19, 20, 4, 5, 6, 7, 8, 9, 56, 57, 58, 59, 60, 61, 62, 63, 64, 65, 66, 67, 68] (by decide +kernel) (by decide +kernel)) (goodIn_sub (fun _ h => List.mem_cons_of_mem _ (List.mem_append_right _ h)) (by decide +kernel))
set_option maxRecDepth 20000 in
theorem gX5_fails_X5_checkZone : GoodIn wsX5_fails (wsV RX5 59 RX5 yX5_checkZone wsX5_checkZone) := goodIn_app (goodIn_of _ (by decide +kernel)) ggX5_fails_X5_checkZone
set_option maxRecDepth 20000 in
theorem ggX5_fails_X2_has : GoodIn wsX5_fails wsX2_has := goodIn_r _ [25, 26, 27, 24, 28, 29, 30, 31, 32, 33, 34, 35, 36, 37, 38, 69, 70] (by decide +kernel) (by decide +kernel)
set_option maxRecDepth 20000 in
theorem gX5_fails_X2_has : GoodIn wsX5_fails (wsV RX5 89 RX2 yX2_has wsX2_has) := goodIn_app (goodIn_of _ (by decide +kernel)) ggX5_fails_X2_has
set_option maxRecDepth 20000 in
theorem ggX5_fails_X2_isFull : GoodIn wsX5_fails wsX2_isFull := goodIn_r _ [42, 33, 69, 70] (by decide +kernel) (by decide +kernel)
set_option maxRecDepth 20000 in
theorem gX5_fails_X2_isFull : GoodIn wsX5_fails (wsV RX5 93 RX2 yX2_isFull wsX2_isFull) := goodIn_app (goodIn_of _ (by decide +kernel)) ggX5_fails_X2_isFull
set_option maxRecDepth 20000 in
theorem ggX5_fails_X2_add : GoodIn wsX5_fails wsX2_add := goodIn_r _ [46, 34, 33, 47, 48, 49, 50, 51, 40, 41, 24, 42, 26, 27, 28, 29, 30, 31, 32, 69, 70] (by decide +kernel) (by decide +kernel)
set_option maxRecDepth 20000 in
theorem gX5_fails_X2_add : GoodIn wsX5_fails (wsV RX5 102 RX2 yX2_add wsX2_add) := goodIn_app (goodIn_of _ (by decide +kernel)) ggX5_fails_X2_add
set_option maxRecDepth 20000 in
theorem ggX5_fails_X2_remove : GoodIn wsX5_fails wsX2_remove := goodIn_r _ [55, 34, 33, 47, 48, 49, 50, 26, 27, 24, 28, 29, 30, 31, 32, 35, 36, 37, 38, 69, 70] (by decide +kernel) (by decide +kernel)
set_option maxRecDepth 20000 in
theorem gX5_fails_X2_remove : GoodIn wsX5_fails (wsV RX5 105 RX2 yX2_remove wsX2_remove) := goodIn_app (goodIn_of _ (by decide +kernel)) ggX5_fails_X2_remove
theorem dX5_fails_0 : decode cX5_fails 0 = .ok (.iload_n 1, 1) := by decide +kernel
theorem dX5_fails_1 : decode cX5_fails 1 = .ok (.iconst 0, 1) := by decide +kernel
theorem dX5_fails_2 : decode cX5_fails 2 = .ok (.bipush 15, 2) := by decide +kernel
theorem dX5_fails_4 : decode cX5_fails 4 = .ok (.invokestatic 62, 3) := by decide +kernel
theorem dX5_fails_7 : decode cX5_fails 7 = .ok (.aload_n 0, 1) := by decide +kernel
theorem dX5_fails_8 : decode cX5_fails 8 = .ok (.iload_n 2, 1) := by decide +kernel
theorem dX5_fails_9 : decode cX5_fails 9 = .ok (.invokevirtual 59, 3) := by decide +kernel
theorem dX5_fails_12 : decode cX5_fails 12 = .ok (.iload_n 3, 1) := by decide +kernel
theorem dX5_fails_13 : decode cX5_fails 13 = .ok (.iconst 0, 1) := by decide +kernel
theorem dX5_fails_14 : decode cX5_fails 14 = .ok (.sipush 999, 3) := by decide +kernel
theorem dX5_fails_17 : decode cX5_fails 17 = .ok (.invokestatic 62, 3) := by decide +kernel
theorem dX5_fails_20 : decode cX5_fails 20 = .ok (.aload_n 0, 1) := by decide +kernel
theorem dX5_fails_21 : decode cX5_fails 21 = .ok (.getfield 30, 3) := by decide +kernel
theorem dX5_fails_24 : decode cX5_fails 24 = .ok (.iload_n 1, 1) := by decide +kernel
theorem dX5_fails_25 : decode cX5_fails 25 = .ok (.iload_n 2, 1) := by decide +kernel
theorem dX5_fails_26 : decode cX5_fails 26 = .ok (.iload_n 3, 1) := by decide +kernel
theorem dX5_fails_27 : decode cX5_fails 27 = .ok (.invokevirtual 89, 3) := by decide +kernel
theorem dX5_fails_30 : decode cX5_fails 30 = .ok (.istore 5, 2) := by decide +kernel
theorem dX5_fails_32 : decode cX5_fails 32 = .ok (.iload 4, 2) := by decide +kernel
theorem dX5_fails_34 : decode cX5_fails 34 = .ok (.ifCond .eq 38, 3) := by decide +kernel
theorem dX5_fails_37 : decode cX5_fails 37 = .ok (.iload 5, 2) := by decide +kernel
theorem dX5_fails_39 : decode cX5_fails 39 = .ok (.ifCond .ne 33, 3) := by decide +kernel
theorem dX5_fails_42 : decode cX5_fails 42 = .ok (.aload_n 0, 1) := by decide +kernel
theorem dX5_fails_43 : decode cX5_fails 43 = .ok (.getfield 30, 3) := by decide +kernel
theorem dX5_fails_46 : decode cX5_fails 46 = .ok (.invokevirtual 93, 3) := by decide +kernel
theorem dX5_fails_49 : decode cX5_fails 49 = .ok (.ifCond .eq 13, 3) := by decide +kernel
theorem dX5_fails_52 : decode cX5_fails 52 = .ok (.new 97, 3) := by decide +kernel
theorem dX5_fails_55 : decode cX5_fails 55 = .ok (.dup, 1) := by decide +kernel
theorem dX5_fails_56 : decode cX5_fails 56 = .ok (.ldc 99, 2) := by decide +kernel
theorem dX5_fails_58 : decode cX5_fails 58 = .ok (.invokespecial 101, 3) := by decide +kernel
theorem dX5_fails_61 : decode cX5_fails 61 = .ok (.athrow, 1) := by decide +kernel
theorem dX5_fails_62 : decode cX5_fails 62 = .ok (.aload_n 0, 1) := by decide +kernel
theorem dX5_fails_63 : decode cX5_fails 63 = .ok (.getfield 30, 3) := by decide +kernel
theorem dX5_fails_66 : decode cX5_fails 66 = .ok (.iload_n 1, 1) := by decide +kernel
theorem dX5_fails_67 : decode cX5_fails 67 = .ok (.iload_n 2, 1) := by decide +kernel
theorem dX5_fails_68 : decode cX5_fails 68 = .ok (.iload_n 3, 1) := by decide +kernel
theorem dX5_fails_69 : decode cX5_fails 69 = .ok (.invokevirtual 102, 3) := by decide +kernel
theorem dX5_fails_72 : decode cX5_fails 72 = .ok (.iload 4, 2) := by decide +kernel
theorem dX5_fails_74 : decode cX5_fails 74 = .ok (.ifCond .ne 18, 3) := by decide +kernel
theorem dX5_fails_77 : decode cX5_fails 77 = .ok (.iload 5, 2) := by decide +kernel
theorem dX5_fails_79 : decode cX5_fails 79 = .ok (.ifCond .eq 13, 3) := by decide +kernel
theorem dX5_fails_82 : decode cX5_fails 82 = .ok (.aload_n 0, 1) := by decide +kernel
theorem dX5_fails_83 : decode cX5_fails 83 = .ok (.getfield 30, 3) := by decide +kernel
theorem dX5_fails_86 : decode cX5_fails 86 = .ok (.iload_n 1, 1) := by decide +kernel
theorem dX5_fails_87 : decode cX5_fails 87 = .ok (.iload_n 2, 1) := by decide +kernel
theorem dX5_fails_88 : decode cX5_fails 88 = .ok (.iload_n 3, 1) := by decide +kernel
theorem dX5_fails_89 : decode cX5_fails 89 = .ok (.invokevirtual 105, 3) := by decide +kernel
theorem dX5_fails_92 : decode cX5_fails 92 = .ok (.iload 5, 2) := by decide +kernel
theorem dX5_fails_94 : decode cX5_fails 94 = .ok (.ireturn, 1) := by decide +kernel
set_option maxRecDepth 20000 in
theorem ggX5_stops_X5_checkWithin : GoodIn wsX5_stops wsX5_checkWithin := goodIn_ca (goodIn_r _ [5, 6, 7] (by decide +kernel) (by decide +kernel)) (goodIn_sub (fun _ h => List.mem_cons_of_mem _ (List.mem_append_right _ h)) (by decide +kernel))
set_option maxRecDepth 20000 in
theorem gX5_stops_X5_checkWithin : GoodIn wsX5_stops (va_wsS RX5 62 yX5_checkWithin wsX5_checkWithin) := goodIn_app (goodIn_of _ (by decide +kernel)) ggX5_stops_X5_checkWithin
theorem dX5_stops_0 : decode cX5_stops 0 = .ok (.iload_n 1, 1) := by decide +kernel
theorem dX5_stops_1 : decode cX5_stops 1 = .ok (.iconst (-1), 1) := by decide +kernel
theorem dX5_stops_2 : decode cX5_stops 2 = .ok (.sipush 999, 3) := by decide +kernel
theorem dX5_stops_5 : decode cX5_stops 5 = .ok (.invokestatic 62, 3) := by decide +kernel
theorem dX5_stops_8 : decode cX5_stops 8 = .ok (.aload_n 0, 1) := by decide +kernel
theorem dX5_stops_9 : decode cX5_stops 9 = .ok (.getfield 55, 3) := by decide +kernel
theorem dX5_stops_12 : decode cX5_stops 12 = .ok (.istore_n 2, 1) := by decide +kernel
theorem dX5_stops_13 : decode cX5_stops 13 = .ok (.aload_n 0, 1) := by decide +kernel
theorem dX5_stops_14 : decode cX5_stops 14 = .ok (.iload_n 1, 1) := by decide +kernel
theorem dX5_stops_15 : decode cX5_stops 15 = .ok (.putfield 55, 3) := by decide +kernel
theorem dX5_stops_18 : decode cX5_stops 18 = .ok (.iload_n 2, 1) := by decide +kernel
theorem dX5_stops_19 : decode cX5_stops 19 = .ok (.ireturn, 1) := by decide +kernel
set_option maxRecDepth 20000 in
theorem ggX5_run_X5_checkWithin : GoodIn wsX5_run wsX5_checkWithin := goodIn_ca (goodIn_r _ [7, 8, 9] (by decide +kernel) (by decide +kernel)) (goodIn_sub (fun _ h => List.mem_cons_of_mem _ (List.mem_append_right _ h)) (by decide +kernel))
set_option maxRecDepth 20000 in
theorem gX5_run_X5_checkWithin : GoodIn wsX5_run (va_wsS RX5 62 yX5_checkWithin wsX5_checkWithin) := goodIn_app (goodIn_of _ (by decide +kernel)) ggX5_run_X5_checkWithin
set_option maxRecDepth 20000 in
theorem ggX5_run_X1_gather : GoodIn wsX5_run wsX1_gather := goodIn_r _ [14, 15, 16, 17, 135, 136, 137] (by decide +kernel) (by decide +kernel)
set_option maxRecDepth 20000 in
theorem gX5_run_X1_gather : GoodIn wsX5_run (wsV RX5 108 RX1 yX1_gather wsX1_gather) := goodIn_app (goodIn_of _ (by decide +kernel)) ggX5_run_X1_gather
set_option maxRecDepth 20000 in
theorem ggX5_run_X0_clear : GoodIn wsX5_run wsX0_clear := goodIn_r _ [22, 23, 138, 139] (by decide +kernel) (by decide +kernel)
set_option maxRecDepth 20000 in
theorem gX5_run_X0_clear : GoodIn wsX5_run (wsV RX5 111 RX0 yX0_clear wsX0_clear) := goodIn_app (goodIn_of _ (by decide +kernel)) ggX5_run_X0_clear
set_option maxRecDepth 20000 in
theorem ggX5_run_X5_hourIsDone : GoodIn wsX5_run wsX5_hourIsDone := goodIn_r _ [27, 28, 29, 30, 31, 32, 33, 34, 35, 36, 37, 38, 39, 40, 41, 42, 43, 44, 45, 46, 47, 48, 6, 49, 50, 51, 52, 53, 54, 55, 56, 57, 58, 59, 60, 61, 62, 1, 63, 2, 64, 65, 66, 13, 67, 16, 17, 68, 15, 69, 70, 71, 72, 73, 74, 75, 76, 77, 78, 79, 80, 81, 82, 83, 84, 85, 86, 87, 88, 89, 21, 90, 23, 91, 92, 93, 94, 95, 96, 97, 98, 99, 100, 101, 102, 103, 104, 105, 106, 107, 108, 109, 110, 111, 112, 113, 114, 115, 116, 117, 118, 119, 120, 121, 122, 123, 124, 125, 126, 127, 128, 129, 130, 131, 132, 133, 134, 140, 141, 142, 143, 144, 145, 146, 135, 136, 137, 147, 148, 138, 139] (by decide +kernel) (by decide +kernel)
set_option maxRecDepth 20000 in
theorem gX5_run_X5_hourIsDone : GoodIn wsX5_run (wsV RX5 114 RX5 yX5_hourIsDone wsX5_hourIsDone) := goodIn_app (goodIn_of _ (by decide +kernel)) ggX5_run_X5_hourIsDone
theorem dX5_run_0 : decode cX5_run 0 = .ok (.iload_n 1, 1) := by decide +kernel
theorem dX5_run_1 : decode cX5_run 1 = .ok (.iconst 1, 1) := by decide +kernel
theorem dX5_run_2 : decode cX5_run 2 = .ok (.bipush 16, 2) := by decide +kernel
theorem dX5_run_4 : decode cX5_run 4 = .ok (.invokestatic 62, 3) := by decide +kernel
theorem dX5_run_7 : decode cX5_run 7 = .ok (.iload_n 3, 1) := by decide +kernel
theorem dX5_run_8 : decode cX5_run 8 = .ok (.iconst 1, 1) := by decide +kernel
theorem dX5_run_9 : decode cX5_run 9 = .ok (.bipush 50, 2) := by decide +kernel
theorem dX5_run_11 : decode cX5_run 11 = .ok (.invokestatic 62, 3) := by decide +kernel
theorem dX5_run_14 : decode cX5_run 14 = .ok (.aload_n 0, 1) := by decide +kernel
theorem dX5_run_15 : decode cX5_run 15 = .ok (.getfield 37, 3) := by decide +kernel
theorem dX5_run_18 : decode cX5_run 18 = .ok (.iload_n 1, 1) := by decide +kernel
theorem dX5_run_19 : decode cX5_run 19 = .ok (.iload_n 2, 1) := by decide +kernel
theorem dX5_run_20 : decode cX5_run 20 = .ok (.invokevirtual 108, 3) := by decide +kernel
theorem dX5_run_23 : decode cX5_run 23 = .ok (.aload_n 0, 1) := by decide +kernel
theorem dX5_run_24 : decode cX5_run 24 = .ok (.getfield 44, 3) := by decide +kernel
theorem dX5_run_27 : decode cX5_run 27 = .ok (.invokevirtual 111, 3) := by decide +kernel
theorem dX5_run_30 : decode cX5_run 30 = .ok (.iconst 0, 1) := by decide +kernel
theorem dX5_run_31 : decode cX5_run 31 = .ok (.istore 4, 2) := by decide +kernel
theorem dX5_run_33 : decode cX5_run 33 = .ok (.iload 4, 2) := by decide +kernel
theorem dX5_run_35 : decode cX5_run 35 = .ok (.iload_n 3, 1) := by decide +kernel
theorem dX5_run_36 : decode cX5_run 36 = .ok (.if_icmp .ge 35, 3) := by decide +kernel
theorem dX5_run_39 : decode cX5_run 39 = .ok (.aload_n 0, 1) := by decide +kernel
theorem dX5_run_40 : decode cX5_run 40 = .ok (.iload 4, 2) := by decide +kernel
theorem dX5_run_42 : decode cX5_run 42 = .ok (.invokevirtual 114, 3) := by decide +kernel
theorem dX5_run_45 : decode cX5_run 45 = .ok (.ifCond .ne 6, 3) := by decide +kernel
theorem dX5_run_48 : decode cX5_run 48 = .ok (.iload 4, 2) := by decide +kernel
theorem dX5_run_50 : decode cX5_run 50 = .ok (.ireturn, 1) := by decide +kernel
theorem dX5_run_51 : decode cX5_run 51 = .ok (.iload 4, 2) := by decide +kernel
theorem dX5_run_53 : decode cX5_run 53 = .ok (.aload_n 0, 1) := by decide +kernel
theorem dX5_run_54 : decode cX5_run 54 = .ok (.getfield 55, 3) := by decide +kernel
theorem dX5_run_57 : decode cX5_run 57 = .ok (.if_icmp .ne 8, 3) := by decide +kernel
theorem dX5_run_60 : decode cX5_run 60 = .ok (.iload 4, 2) := by decide +kernel
theorem dX5_run_62 : decode cX5_run 62 = .ok (.iconst 1, 1) := by decide +kernel
theorem dX5_run_63 : decode cX5_run 63 = .ok (.iadd, 1) := by decide +kernel
theorem dX5_run_64 : decode cX5_run 64 = .ok (.ireturn, 1) := by decide +kernel
theorem dX5_run_65 : decode cX5_run 65 = .ok (.iinc 4 1, 3) := by decide +kernel
theorem dX5_run_68 : decode cX5_run 68 = .ok (.goto (-35), 3) := by decide +kernel
theorem dX5_run_71 : decode cX5_run 71 = .ok (.iload_n 3, 1) := by decide +kernel
theorem dX5_run_72 : decode cX5_run 72 = .ok (.ireturn, 1) := by decide +kernel
set_option maxRecDepth 20000 in
theorem ggX5_colours_X4_colourCount : GoodIn wsX5_colours wsX4_colourCount := goodIn_r _ [6, 7, 14, 15, 16, 17, 18, 19, 20] (by decide +kernel) (by decide +kernel)
set_option maxRecDepth 20000 in
theorem gX5_colours_X4_colourCount : GoodIn wsX5_colours (wsV RX5 118 RX4 yX4_colourCount wsX4_colourCount) := goodIn_app (goodIn_of _ (by decide +kernel)) ggX5_colours_X4_colourCount
theorem dX5_colours_0 : decode cX5_colours 0 = .ok (.aload_n 0, 1) := by decide +kernel
theorem dX5_colours_1 : decode cX5_colours 1 = .ok (.getfield 23, 3) := by decide +kernel
theorem dX5_colours_4 : decode cX5_colours 4 = .ok (.invokevirtual 118, 3) := by decide +kernel
theorem dX5_colours_7 : decode cX5_colours 7 = .ok (.ireturn, 1) := by decide +kernel
set_option maxRecDepth 20000 in
theorem ggX5_colour_X5_checkZone : GoodIn wsX5_colour wsX5_checkZone := goodIn_ca (goodIn_r _ [6, 1, 7, 8, 9, 10, 11, 12, 13, 14, 5, 15, 16, 17, 23, 24, 25, 26, 27, 28, 29, 30, 31, 32, 33, 34, 35] (by decide +kernel) (by decide +kernel)) (goodIn_sub (fun _ h => List.mem_cons_of_mem _ (List.mem_append_right _ h)) (by decide +kernel))
set_option maxRecDepth 20000 in
theorem gX5_colour_X5_checkZone : GoodIn wsX5_colour (wsV RX5 59 RX5 yX5_checkZone wsX5_checkZone) := goodIn_app (goodIn_of _ (by decide +kernel)) ggX5_colour_X5_checkZone
set_option maxRecDepth 20000 in
theorem ggX5_colour_X4_colourOf : GoodIn wsX5_colour wsX4_colourOf := goodIn_r _ [21, 22, 29, 30, 31, 32, 33, 34, 35] (by decide +kernel) (by decide +kernel)
set_option maxRecDepth 20000 in
theorem gX5_colour_X4_colourOf : GoodIn wsX5_colour (wsV RX5 122 RX4 yX4_colourOf wsX4_colourOf) := goodIn_app (goodIn_of _ (by decide +kernel)) ggX5_colour_X4_colourOf
theorem dX5_colour_0 : decode cX5_colour 0 = .ok (.aload_n 0, 1) := by decide +kernel
theorem dX5_colour_1 : decode cX5_colour 1 = .ok (.iload_n 1, 1) := by decide +kernel
theorem dX5_colour_2 : decode cX5_colour 2 = .ok (.invokevirtual 59, 3) := by decide +kernel
theorem dX5_colour_5 : decode cX5_colour 5 = .ok (.aload_n 0, 1) := by decide +kernel
theorem dX5_colour_6 : decode cX5_colour 6 = .ok (.getfield 23, 3) := by decide +kernel
theorem dX5_colour_9 : decode cX5_colour 9 = .ok (.iload_n 1, 1) := by decide +kernel
theorem dX5_colour_10 : decode cX5_colour 10 = .ok (.invokevirtual 122, 3) := by decide +kernel
theorem dX5_colour_13 : decode cX5_colour 13 = .ok (.ireturn, 1) := by decide +kernel
set_option maxRecDepth 20000 in
theorem ggX5_at_X5_checkZone : GoodIn wsX5_at wsX5_checkZone := goodIn_ca (goodIn_r _ [6, 1, 7, 8, 9, 10, 11, 12, 13, 14, 5, 15, 16, 17, 23, 24, 25, 26, 27, 28, 29, 30, 31, 32, 33, 34, 35] (by decide +kernel) (by decide +kernel)) (goodIn_sub (fun _ h => List.mem_cons_of_mem _ (List.mem_append_right _ h)) (by decide +kernel))
set_option maxRecDepth 20000 in
theorem gX5_at_X5_checkZone : GoodIn wsX5_at (wsV RX5 59 RX5 yX5_checkZone wsX5_checkZone) := goodIn_app (goodIn_of _ (by decide +kernel)) ggX5_at_X5_checkZone
set_option maxRecDepth 20000 in
theorem ggX5_at_X4_valueOf : GoodIn wsX5_at wsX4_valueOf := goodIn_r _ [21, 22, 29, 30, 31, 32, 33, 34, 35] (by decide +kernel) (by decide +kernel)
set_option maxRecDepth 20000 in
theorem gX5_at_X4_valueOf : GoodIn wsX5_at (wsV RX5 81 RX4 yX4_valueOf wsX4_valueOf) := goodIn_app (goodIn_of _ (by decide +kernel)) ggX5_at_X4_valueOf
theorem dX5_at_0 : decode cX5_at 0 = .ok (.aload_n 0, 1) := by decide +kernel
theorem dX5_at_1 : decode cX5_at 1 = .ok (.iload_n 1, 1) := by decide +kernel
theorem dX5_at_2 : decode cX5_at 2 = .ok (.invokevirtual 59, 3) := by decide +kernel
theorem dX5_at_5 : decode cX5_at 5 = .ok (.aload_n 0, 1) := by decide +kernel
theorem dX5_at_6 : decode cX5_at 6 = .ok (.getfield 23, 3) := by decide +kernel
theorem dX5_at_9 : decode cX5_at 9 = .ok (.iload_n 1, 1) := by decide +kernel
theorem dX5_at_10 : decode cX5_at 10 = .ok (.invokevirtual 81, 3) := by decide +kernel
theorem dX5_at_13 : decode cX5_at 13 = .ok (.ireturn, 1) := by decide +kernel
set_option maxRecDepth 20000 in
theorem ggX5_sum_X4_total : GoodIn wsX5_sum wsX4_total := goodIn_r _ [6, 7, 8, 9, 10, 5, 11, 12, 13, 14, 15, 16, 17, 18, 19, 20, 21, 22, 23, 30, 31, 32, 33, 34, 35, 36] (by decide +kernel) (by decide +kernel)
set_option maxRecDepth 20000 in
theorem gX5_sum_X4_total : GoodIn wsX5_sum (wsV RX5 125 RX4 yX4_total wsX4_total) := goodIn_app (goodIn_of _ (by decide +kernel)) ggX5_sum_X4_total
theorem dX5_sum_0 : decode cX5_sum 0 = .ok (.aload_n 0, 1) := by decide +kernel
theorem dX5_sum_1 : decode cX5_sum 1 = .ok (.getfield 23, 3) := by decide +kernel
theorem dX5_sum_4 : decode cX5_sum 4 = .ok (.invokevirtual 125, 3) := by decide +kernel
theorem dX5_sum_7 : decode cX5_sum 7 = .ok (.ireturn, 1) := by decide +kernel
set_option maxRecDepth 20000 in
theorem ggX5_book_X5_checkWithin : GoodIn wsX5_book wsX5_checkWithin := goodIn_ca (goodIn_r _ [5, 6, 7] (by decide +kernel) (by decide +kernel)) (goodIn_sub (fun _ h => List.mem_cons_of_mem _ (List.mem_append_right _ h)) (by decide +kernel))
set_option maxRecDepth 20000 in
theorem gX5_book_X5_checkWithin : GoodIn wsX5_book (va_wsS RX5 62 yX5_checkWithin wsX5_checkWithin) := goodIn_app (goodIn_of _ (by decide +kernel)) ggX5_book_X5_checkWithin
set_option maxRecDepth 20000 in
theorem ggX5_book_X0_size : GoodIn wsX5_book wsX0_size := goodIn_r _ [12, 13, 25, 26] (by decide +kernel) (by decide +kernel)
set_option maxRecDepth 20000 in
theorem gX5_book_X0_size : GoodIn wsX5_book (wsV RX5 128 RX0 yX0_size wsX0_size) := goodIn_app (goodIn_of _ (by decide +kernel)) ggX5_book_X0_size
set_option maxRecDepth 20000 in
theorem ggX5_book_X0_read : GoodIn wsX5_book wsX0_read := goodIn_r _ [17, 18, 25, 26] (by decide +kernel) (by decide +kernel)
set_option maxRecDepth 20000 in
theorem gX5_book_X0_read : GoodIn wsX5_book (wsV RX5 131 RX0 yX0_read wsX0_read) := goodIn_app (goodIn_of _ (by decide +kernel)) ggX5_book_X0_read
theorem dX5_book_0 : decode cX5_book 0 = .ok (.iload_n 2, 1) := by decide +kernel
theorem dX5_book_1 : decode cX5_book 1 = .ok (.iconst 0, 1) := by decide +kernel
theorem dX5_book_2 : decode cX5_book 2 = .ok (.iconst 3, 1) := by decide +kernel
theorem dX5_book_3 : decode cX5_book 3 = .ok (.invokestatic 62, 3) := by decide +kernel
theorem dX5_book_6 : decode cX5_book 6 = .ok (.iload_n 1, 1) := by decide +kernel
theorem dX5_book_7 : decode cX5_book 7 = .ok (.iconst (-1), 1) := by decide +kernel
theorem dX5_book_8 : decode cX5_book 8 = .ok (.aload_n 0, 1) := by decide +kernel
theorem dX5_book_9 : decode cX5_book 9 = .ok (.getfield 44, 3) := by decide +kernel
theorem dX5_book_12 : decode cX5_book 12 = .ok (.invokevirtual 128, 3) := by decide +kernel
theorem dX5_book_15 : decode cX5_book 15 = .ok (.iconst 1, 1) := by decide +kernel
theorem dX5_book_16 : decode cX5_book 16 = .ok (.isub, 1) := by decide +kernel
theorem dX5_book_17 : decode cX5_book 17 = .ok (.invokestatic 62, 3) := by decide +kernel
theorem dX5_book_20 : decode cX5_book 20 = .ok (.iload_n 1, 1) := by decide +kernel
theorem dX5_book_21 : decode cX5_book 21 = .ok (.iconst (-1), 1) := by decide +kernel
theorem dX5_book_22 : decode cX5_book 22 = .ok (.if_icmp .ne 13, 3) := by decide +kernel
theorem dX5_book_25 : decode cX5_book 25 = .ok (.aload_n 0, 1) := by decide +kernel
theorem dX5_book_26 : decode cX5_book 26 = .ok (.getfield 44, 3) := by decide +kernel
theorem dX5_book_29 : decode cX5_book 29 = .ok (.invokevirtual 128, 3) := by decide +kernel
theorem dX5_book_32 : decode cX5_book 32 = .ok (.goto 12, 3) := by decide +kernel
theorem dX5_book_35 : decode cX5_book 35 = .ok (.aload_n 0, 1) := by decide +kernel
theorem dX5_book_36 : decode cX5_book 36 = .ok (.getfield 44, 3) := by decide +kernel
theorem dX5_book_39 : decode cX5_book 39 = .ok (.iload_n 1, 1) := by decide +kernel
theorem dX5_book_40 : decode cX5_book 40 = .ok (.iload_n 2, 1) := by decide +kernel
theorem dX5_book_41 : decode cX5_book 41 = .ok (.invokevirtual 131, 3) := by decide +kernel
theorem dX5_book_44 : decode cX5_book 44 = .ok (.ireturn, 1) := by decide +kernel
set_option maxRecDepth 20000 in
theorem ggX5_did_X5_checkWithin : GoodIn wsX5_did wsX5_checkWithin := goodIn_ca (goodIn_r _ [5, 6, 7] (by decide +kernel) (by decide +kernel)) (goodIn_sub (fun _ h => List.mem_cons_of_mem _ (List.mem_append_right _ h)) (by decide +kernel))
set_option maxRecDepth 20000 in
theorem gX5_did_X5_checkWithin : GoodIn wsX5_did (va_wsS RX5 62 yX5_checkWithin wsX5_checkWithin) := goodIn_app (goodIn_of _ (by decide +kernel)) ggX5_did_X5_checkWithin
set_option maxRecDepth 20000 in
theorem ggX5_did_X1_doneBy : GoodIn wsX5_did wsX1_doneBy := goodIn_r _ [12, 13, 20, 21, 22] (by decide +kernel) (by decide +kernel)
set_option maxRecDepth 20000 in
theorem gX5_did_X1_doneBy : GoodIn wsX5_did (wsV RX5 134 RX1 yX1_doneBy wsX1_doneBy) := goodIn_app (goodIn_of _ (by decide +kernel)) ggX5_did_X1_doneBy
theorem dX5_did_0 : decode cX5_did 0 = .ok (.iload_n 1, 1) := by decide +kernel
theorem dX5_did_1 : decode cX5_did 1 = .ok (.iconst 0, 1) := by decide +kernel
theorem dX5_did_2 : decode cX5_did 2 = .ok (.bipush 15, 2) := by decide +kernel
theorem dX5_did_4 : decode cX5_did 4 = .ok (.invokestatic 62, 3) := by decide +kernel
theorem dX5_did_7 : decode cX5_did 7 = .ok (.aload_n 0, 1) := by decide +kernel
theorem dX5_did_8 : decode cX5_did 8 = .ok (.getfield 37, 3) := by decide +kernel
theorem dX5_did_11 : decode cX5_did 11 = .ok (.iload_n 1, 1) := by decide +kernel
theorem dX5_did_12 : decode cX5_did 12 = .ok (.invokevirtual 134, 3) := by decide +kernel
theorem dX5_did_15 : decode cX5_did 15 = .ok (.ireturn, 1) := by decide +kernel
set_option maxRecDepth 20000 in
theorem ggX5_foretold_X5_checkZone : GoodIn wsX5_foretold wsX5_checkZone := goodIn_ca (goodIn_r _ [6, 1, 7, 8, 9, 10, 11, 12, 13, 14, 5, 15, 16, 17, 55, 56, 57, 58, 59, 60, 61, 62, 63, 64, 65, 66, 67] (by decide +kernel) (by decide +kernel)) (goodIn_sub (fun _ h => List.mem_cons_of_mem _ (List.mem_append_right _ h)) (by decide +kernel))
set_option maxRecDepth 20000 in
theorem gX5_foretold_X5_checkZone : GoodIn wsX5_foretold (wsV RX5 59 RX5 yX5_checkZone wsX5_checkZone) := goodIn_app (goodIn_of _ (by decide +kernel)) ggX5_foretold_X5_checkZone
set_option maxRecDepth 20000 in
theorem ggX5_foretold_X5_checkWithin : GoodIn wsX5_foretold wsX5_checkWithin := goodIn_ca (goodIn_r _ [15, 16, 17] (by decide +kernel) (by decide +kernel)) (goodIn_sub (fun _ h => List.mem_cons_of_mem _ (List.mem_append_right _ h)) (by decide +kernel))
set_option maxRecDepth 20000 in
theorem gX5_foretold_X5_checkWithin : GoodIn wsX5_foretold (va_wsS RX5 62 yX5_checkWithin wsX5_checkWithin) := goodIn_app (goodIn_of _ (by decide +kernel)) ggX5_foretold_X5_checkWithin
set_option maxRecDepth 20000 in
theorem ggX5_foretold_X4_valueAfter : GoodIn wsX5_foretold wsX4_valueAfter := goodIn_r _ [21, 22, 23, 12, 24, 25, 26, 27, 28, 29, 30, 31, 10, 32, 33, 34, 35, 36, 37, 38, 39, 40, 41, 42, 43, 44, 5, 45, 46, 47, 48, 49, 50, 51, 52, 53, 54, 61, 62, 63, 64, 65, 66, 67] (by decide +kernel) (by decide +kernel)
set_option maxRecDepth 20000 in
theorem gX5_foretold_X4_valueAfter : GoodIn wsX5_foretold (wsV RX5 137 RX4 yX4_valueAfter wsX4_valueAfter) := goodIn_app (goodIn_of _ (by decide +kernel)) ggX5_foretold_X4_valueAfter
theorem dX5_foretold_0 : decode cX5_foretold 0 = .ok (.aload_n 0, 1) := by decide +kernel
theorem dX5_foretold_1 : decode cX5_foretold 1 = .ok (.iload_n 1, 1) := by decide +kernel
theorem dX5_foretold_2 : decode cX5_foretold 2 = .ok (.invokevirtual 59, 3) := by decide +kernel
theorem dX5_foretold_5 : decode cX5_foretold 5 = .ok (.iload_n 2, 1) := by decide +kernel
theorem dX5_foretold_6 : decode cX5_foretold 6 = .ok (.iconst 0, 1) := by decide +kernel
theorem dX5_foretold_7 : decode cX5_foretold 7 = .ok (.bipush 50, 2) := by decide +kernel
theorem dX5_foretold_9 : decode cX5_foretold 9 = .ok (.invokestatic 62, 3) := by decide +kernel
theorem dX5_foretold_12 : decode cX5_foretold 12 = .ok (.aload_n 0, 1) := by decide +kernel
theorem dX5_foretold_13 : decode cX5_foretold 13 = .ok (.getfield 23, 3) := by decide +kernel
theorem dX5_foretold_16 : decode cX5_foretold 16 = .ok (.iload_n 1, 1) := by decide +kernel
theorem dX5_foretold_17 : decode cX5_foretold 17 = .ok (.iload_n 2, 1) := by decide +kernel
theorem dX5_foretold_18 : decode cX5_foretold 18 = .ok (.invokevirtual 137, 3) := by decide +kernel
theorem dX5_foretold_21 : decode cX5_foretold 21 = .ok (.ireturn, 1) := by decide +kernel
set_option maxRecDepth 20000 in
theorem ggX5_job_X5_checkWithin : GoodIn wsX5_job wsX5_checkWithin := goodIn_ca (goodIn_r _ [7, 8, 9] (by decide +kernel) (by decide +kernel)) (goodIn_sub (fun _ h => List.mem_cons_of_mem _ (List.mem_append_right _ h)) (by decide +kernel))
set_option maxRecDepth 20000 in
theorem gX5_job_X5_checkWithin : GoodIn wsX5_job (va_wsS RX5 62 yX5_checkWithin wsX5_checkWithin) := goodIn_app (goodIn_of _ (by decide +kernel)) ggX5_job_X5_checkWithin
set_option maxRecDepth 20000 in
theorem ggX5_job_X3_isFull : GoodIn wsX5_job wsX3_isFull := goodIn_r _ [14, 15, 31, 32, 33, 34, 35] (by decide +kernel) (by decide +kernel)
set_option maxRecDepth 20000 in
theorem gX5_job_X3_isFull : GoodIn wsX5_job (wsV RX5 140 RX3 yX3_isFull wsX3_isFull) := goodIn_app (goodIn_of _ (by decide +kernel)) ggX5_job_X3_isFull
set_option maxRecDepth 20000 in
theorem ggX5_job_X3_add : GoodIn wsX5_job wsX3_add := goodIn_r _ [19, 20, 21, 15, 22, 23, 24, 11, 12, 13, 14, 31, 32, 33, 34, 35] (by decide +kernel) (by decide +kernel)
set_option maxRecDepth 20000 in
theorem gX5_job_X3_add : GoodIn wsX5_job (wsV RX5 143 RX3 yX3_add wsX3_add) := goodIn_app (goodIn_of _ (by decide +kernel)) ggX5_job_X3_add
theorem dX5_job_0 : decode cX5_job 0 = .ok (.iload_n 1, 1) := by decide +kernel
theorem dX5_job_1 : decode cX5_job 1 = .ok (.iconst 0, 1) := by decide +kernel
theorem dX5_job_2 : decode cX5_job 2 = .ok (.bipush 100, 2) := by decide +kernel
theorem dX5_job_4 : decode cX5_job 4 = .ok (.invokestatic 62, 3) := by decide +kernel
theorem dX5_job_7 : decode cX5_job 7 = .ok (.aload_n 0, 1) := by decide +kernel
theorem dX5_job_8 : decode cX5_job 8 = .ok (.getfield 51, 3) := by decide +kernel
theorem dX5_job_11 : decode cX5_job 11 = .ok (.invokevirtual 140, 3) := by decide +kernel
theorem dX5_job_14 : decode cX5_job 14 = .ok (.ifCond .eq 13, 3) := by decide +kernel
theorem dX5_job_17 : decode cX5_job 17 = .ok (.new 97, 3) := by decide +kernel
theorem dX5_job_20 : decode cX5_job 20 = .ok (.dup, 1) := by decide +kernel
theorem dX5_job_21 : decode cX5_job 21 = .ok (.ldc 141, 2) := by decide +kernel
theorem dX5_job_23 : decode cX5_job 23 = .ok (.invokespecial 101, 3) := by decide +kernel
theorem dX5_job_26 : decode cX5_job 26 = .ok (.athrow, 1) := by decide +kernel
theorem dX5_job_27 : decode cX5_job 27 = .ok (.aload_n 0, 1) := by decide +kernel
theorem dX5_job_28 : decode cX5_job 28 = .ok (.getfield 51, 3) := by decide +kernel
theorem dX5_job_31 : decode cX5_job 31 = .ok (.iload_n 1, 1) := by decide +kernel
theorem dX5_job_32 : decode cX5_job 32 = .ok (.invokevirtual 143, 3) := by decide +kernel
theorem dX5_job_35 : decode cX5_job 35 = .ok (.ireturn, 1) := by decide +kernel
set_option maxRecDepth 20000 in
theorem ggX5_take_X3_takeFirst : GoodIn wsX5_take wsX3_takeFirst := goodIn_r _ [6, 7, 8, 9, 10, 11, 12, 5, 13, 14, 15, 16, 17, 18, 19, 20, 21, 22, 29, 30, 31, 32, 33] (by decide +kernel) (by decide +kernel)
set_option maxRecDepth 20000 in
theorem gX5_take_X3_takeFirst : GoodIn wsX5_take (wsV RX5 145 RX3 yX3_takeFirst wsX3_takeFirst) := goodIn_app (goodIn_of _ (by decide +kernel)) ggX5_take_X3_takeFirst
theorem dX5_take_0 : decode cX5_take 0 = .ok (.aload_n 0, 1) := by decide +kernel
theorem dX5_take_1 : decode cX5_take 1 = .ok (.getfield 51, 3) := by decide +kernel
theorem dX5_take_4 : decode cX5_take 4 = .ok (.invokevirtual 145, 3) := by decide +kernel
theorem dX5_take_7 : decode cX5_take 7 = .ok (.ireturn, 1) := by decide +kernel
set_option maxRecDepth 20000 in
theorem ggX5_age_X3_cameInAll : GoodIn wsX5_age wsX3_cameInAll := goodIn_r _ [6, 7, 27, 28, 29, 30, 31] (by decide +kernel) (by decide +kernel)
set_option maxRecDepth 20000 in
theorem gX5_age_X3_cameInAll : GoodIn wsX5_age (wsV RX5 148 RX3 yX3_cameInAll wsX3_cameInAll) := goodIn_app (goodIn_of _ (by decide +kernel)) ggX5_age_X3_cameInAll
set_option maxRecDepth 20000 in
theorem ggX5_age_X5_checkWithin : GoodIn wsX5_age wsX5_checkWithin := goodIn_ca (goodIn_r _ [11, 12, 13] (by decide +kernel) (by decide +kernel)) (goodIn_sub (fun _ h => List.mem_cons_of_mem _ (List.mem_append_right _ h)) (by decide +kernel))
set_option maxRecDepth 20000 in
theorem gX5_age_X5_checkWithin : GoodIn wsX5_age (va_wsS RX5 62 yX5_checkWithin wsX5_checkWithin) := goodIn_app (goodIn_of _ (by decide +kernel)) ggX5_age_X5_checkWithin
set_option maxRecDepth 20000 in
theorem ggX5_age_X3_ageOf : GoodIn wsX5_age wsX3_ageOf := goodIn_r _ [17, 18, 19, 20, 27, 28, 29, 30, 31] (by decide +kernel) (by decide +kernel)
set_option maxRecDepth 20000 in
theorem gX5_age_X3_ageOf : GoodIn wsX5_age (wsV RX5 151 RX3 yX3_ageOf wsX3_ageOf) := goodIn_app (goodIn_of _ (by decide +kernel)) ggX5_age_X3_ageOf
theorem dX5_age_0 : decode cX5_age 0 = .ok (.iload_n 1, 1) := by decide +kernel
theorem dX5_age_1 : decode cX5_age 1 = .ok (.iconst 0, 1) := by decide +kernel
theorem dX5_age_2 : decode cX5_age 2 = .ok (.aload_n 0, 1) := by decide +kernel
theorem dX5_age_3 : decode cX5_age 3 = .ok (.getfield 51, 3) := by decide +kernel
theorem dX5_age_6 : decode cX5_age 6 = .ok (.invokevirtual 148, 3) := by decide +kernel
theorem dX5_age_9 : decode cX5_age 9 = .ok (.iconst 1, 1) := by decide +kernel
theorem dX5_age_10 : decode cX5_age 10 = .ok (.isub, 1) := by decide +kernel
theorem dX5_age_11 : decode cX5_age 11 = .ok (.invokestatic 62, 3) := by decide +kernel
theorem dX5_age_14 : decode cX5_age 14 = .ok (.aload_n 0, 1) := by decide +kernel
theorem dX5_age_15 : decode cX5_age 15 = .ok (.getfield 51, 3) := by decide +kernel
theorem dX5_age_18 : decode cX5_age 18 = .ok (.iload_n 1, 1) := by decide +kernel
theorem dX5_age_19 : decode cX5_age 19 = .ok (.invokevirtual 151, 3) := by decide +kernel
theorem dX5_age_22 : decode cX5_age 22 = .ok (.ireturn, 1) := by decide +kernel
set_option maxRecDepth 20000 in
theorem ggX5_checkZone_X4_size : GoodIn wsX5_checkZone wsX4_size := goodIn_r _ [6, 7, 20, 21, 22, 23, 24, 25, 26] (by decide +kernel) (by decide +kernel)
set_option maxRecDepth 20000 in
theorem gX5_checkZone_X4_size : GoodIn wsX5_checkZone (wsV RX5 154 RX4 yX4_size wsX4_size) := goodIn_app (goodIn_of _ (by decide +kernel)) ggX5_checkZone_X4_size
set_option maxRecDepth 20000 in
theorem ggX5_checkZone_X5_checkWithin : GoodIn wsX5_checkZone wsX5_checkWithin := goodIn_ca (goodIn_r _ [11, 12, 13] (by decide +kernel) (by decide +kernel)) (goodIn_sub (fun _ h => List.mem_cons_of_mem _ (List.mem_append_right _ h)) (by decide +kernel))
set_option maxRecDepth 20000 in
theorem gX5_checkZone_X5_checkWithin : GoodIn wsX5_checkZone (va_wsS RX5 62 yX5_checkWithin wsX5_checkWithin) := goodIn_app (goodIn_of _ (by decide +kernel)) ggX5_checkZone_X5_checkWithin
theorem dX5_checkZone_0 : decode cX5_checkZone 0 = .ok (.iload_n 1, 1) := by decide +kernel
theorem dX5_checkZone_1 : decode cX5_checkZone 1 = .ok (.iconst 0, 1) := by decide +kernel
theorem dX5_checkZone_2 : decode cX5_checkZone 2 = .ok (.aload_n 0, 1) := by decide +kernel
theorem dX5_checkZone_3 : decode cX5_checkZone 3 = .ok (.getfield 23, 3) := by decide +kernel
theorem dX5_checkZone_6 : decode cX5_checkZone 6 = .ok (.invokevirtual 154, 3) := by decide +kernel
theorem dX5_checkZone_9 : decode cX5_checkZone 9 = .ok (.iconst 1, 1) := by decide +kernel
theorem dX5_checkZone_10 : decode cX5_checkZone 10 = .ok (.isub, 1) := by decide +kernel
theorem dX5_checkZone_11 : decode cX5_checkZone 11 = .ok (.invokestatic 62, 3) := by decide +kernel
theorem dX5_checkZone_14 : decode cX5_checkZone 14 = .ok (.return_, 1) := by decide +kernel
theorem dX5_checkWithin_0 : decode cX5_checkWithin 0 = .ok (.iload_n 0, 1) := by decide +kernel
theorem dX5_checkWithin_1 : decode cX5_checkWithin 1 = .ok (.iload_n 1, 1) := by decide +kernel
theorem dX5_checkWithin_2 : decode cX5_checkWithin 2 = .ok (.if_icmp .lt 8, 3) := by decide +kernel
theorem dX5_checkWithin_5 : decode cX5_checkWithin 5 = .ok (.iload_n 0, 1) := by decide +kernel
theorem dX5_checkWithin_6 : decode cX5_checkWithin 6 = .ok (.iload_n 2, 1) := by decide +kernel
theorem dX5_checkWithin_7 : decode cX5_checkWithin 7 = .ok (.if_icmp .le 13, 3) := by decide +kernel
theorem dX5_checkWithin_10 : decode cX5_checkWithin 10 = .ok (.new 66, 3) := by decide +kernel
theorem dX5_checkWithin_13 : decode cX5_checkWithin 13 = .ok (.dup, 1) := by decide +kernel
theorem dX5_checkWithin_14 : decode cX5_checkWithin 14 = .ok (.ldc 155, 2) := by decide +kernel
theorem dX5_checkWithin_16 : decode cX5_checkWithin 16 = .ok (.invokespecial 70, 3) := by decide +kernel
theorem dX5_checkWithin_19 : decode cX5_checkWithin 19 = .ok (.athrow, 1) := by decide +kernel
theorem dX5_checkWithin_20 : decode cX5_checkWithin 20 = .ok (.return_, 1) := by decide +kernel
theorem dX5_keptWithin_0 : decode cX5_keptWithin 0 = .ok (.ldc2_w 157, 3) := by decide +kernel
theorem dX5_keptWithin_3 : decode cX5_keptWithin 3 = .ok (.ldc2_w 159, 3) := by decide +kernel
theorem dX5_keptWithin_6 : decode cX5_keptWithin 6 = .ok (.lload_n 0, 1) := by decide +kernel
theorem dX5_keptWithin_7 : decode cX5_keptWithin 7 = .ok (.invokestatic 161, 3) := by decide +kernel
theorem dX5_keptWithin_10 : decode cX5_keptWithin 10 = .ok (.invokestatic 164, 3) := by decide +kernel
theorem dX5_keptWithin_13 : decode cX5_keptWithin 13 = .ok (.l2i, 1) := by decide +kernel
theorem dX5_keptWithin_14 : decode cX5_keptWithin 14 = .ok (.ireturn, 1) := by decide +kernel
set_option maxRecDepth 20000 in
theorem ggX5_hourIsDone_X4_remember : GoodIn wsX5_hourIsDone wsX4_remember := goodIn_r _ [6, 7, 8, 9, 10, 11, 12, 13, 117, 118, 119, 120, 121, 122, 123] (by decide +kernel) (by decide +kernel)
set_option maxRecDepth 20000 in
theorem gX5_hourIsDone_X4_remember : GoodIn wsX5_hourIsDone (wsV RX5 166 RX4 yX4_remember wsX4_remember) := goodIn_app (goodIn_of _ (by decide +kernel)) ggX5_hourIsDone_X4_remember
set_option maxRecDepth 20000 in
theorem ggX5_hourIsDone_X4_colourCount : GoodIn wsX5_hourIsDone wsX4_colourCount := goodIn_r _ [17, 18, 117, 118, 119, 120, 121, 122, 123] (by decide +kernel) (by decide +kernel)
set_option maxRecDepth 20000 in
theorem gX5_hourIsDone_X4_colourCount : GoodIn wsX5_hourIsDone (wsV RX5 118 RX4 yX4_colourCount wsX4_colourCount) := goodIn_app (goodIn_of _ (by decide +kernel)) ggX5_hourIsDone_X4_colourCount
set_option maxRecDepth 20000 in
theorem ggX5_hourIsDone_X5_stageIsDone : GoodIn wsX5_hourIsDone wsX5_stageIsDone := goodIn_r _ [23, 1, 24, 25, 26, 5, 27, 9, 28, 29, 30, 31, 32, 33, 34, 35, 22, 36, 37, 38, 39, 40, 41, 42, 43, 44, 45, 46, 47, 48, 49, 50, 51, 52, 53, 54, 55, 56, 57, 58, 59, 60, 61, 62, 63, 64, 65, 66, 67, 68, 69, 70, 71, 72, 73, 74, 75, 76, 77, 7, 78, 79, 80, 81, 82, 83, 84, 85, 86, 87, 88, 89, 90, 91, 92, 93, 94, 95, 96, 97, 98, 99, 100, 101, 102, 103, 104, 105, 106, 111, 112, 113, 114, 115, 116, 117, 118, 119, 120, 121, 122, 123, 124, 125, 126, 127, 128, 129, 130] (by decide +kernel) (by decide +kernel)
set_option maxRecDepth 20000 in
theorem gX5_hourIsDone_X5_stageIsDone : GoodIn wsX5_hourIsDone (wsV RX5 169 RX5 yX5_stageIsDone wsX5_stageIsDone) := goodIn_app (goodIn_of _ (by decide +kernel)) ggX5_hourIsDone_X5_stageIsDone
set_option maxRecDepth 20000 in
theorem ggX5_hourIsDone_X4_recall : GoodIn wsX5_hourIsDone wsX4_recall := goodIn_r _ [110, 8, 7, 9, 10, 11, 12, 13, 117, 118, 119, 120, 121, 122, 123] (by decide +kernel) (by decide +kernel)
set_option maxRecDepth 20000 in
theorem gX5_hourIsDone_X4_recall : GoodIn wsX5_hourIsDone (wsV RX5 173 RX4 yX4_recall wsX4_recall) := goodIn_app (goodIn_of _ (by decide +kernel)) ggX5_hourIsDone_X4_recall
theorem dX5_hourIsDone_0 : decode cX5_hourIsDone 0 = .ok (.aload_n 0, 1) := by decide +kernel
theorem dX5_hourIsDone_1 : decode cX5_hourIsDone 1 = .ok (.getfield 23, 3) := by decide +kernel
theorem dX5_hourIsDone_4 : decode cX5_hourIsDone 4 = .ok (.invokevirtual 166, 3) := by decide +kernel
theorem dX5_hourIsDone_7 : decode cX5_hourIsDone 7 = .ok (.iconst 0, 1) := by decide +kernel
theorem dX5_hourIsDone_8 : decode cX5_hourIsDone 8 = .ok (.istore_n 2, 1) := by decide +kernel
theorem dX5_hourIsDone_9 : decode cX5_hourIsDone 9 = .ok (.iload_n 2, 1) := by decide +kernel
theorem dX5_hourIsDone_10 : decode cX5_hourIsDone 10 = .ok (.aload_n 0, 1) := by decide +kernel
theorem dX5_hourIsDone_11 : decode cX5_hourIsDone 11 = .ok (.getfield 23, 3) := by decide +kernel
theorem dX5_hourIsDone_14 : decode cX5_hourIsDone 14 = .ok (.invokevirtual 118, 3) := by decide +kernel
theorem dX5_hourIsDone_17 : decode cX5_hourIsDone 17 = .ok (.if_icmp .ge 27, 3) := by decide +kernel
theorem dX5_hourIsDone_20 : decode cX5_hourIsDone 20 = .ok (.aload_n 0, 1) := by decide +kernel
theorem dX5_hourIsDone_21 : decode cX5_hourIsDone 21 = .ok (.iload_n 2, 1) := by decide +kernel
theorem dX5_hourIsDone_22 : decode cX5_hourIsDone 22 = .ok (.iload_n 1, 1) := by decide +kernel
theorem dX5_hourIsDone_23 : decode cX5_hourIsDone 23 = .ok (.invokevirtual 169, 3) := by decide +kernel
theorem dX5_hourIsDone_26 : decode cX5_hourIsDone 26 = .ok (.ifCond .ne 12, 3) := by decide +kernel
theorem dX5_hourIsDone_29 : decode cX5_hourIsDone 29 = .ok (.aload_n 0, 1) := by decide +kernel
theorem dX5_hourIsDone_30 : decode cX5_hourIsDone 30 = .ok (.getfield 23, 3) := by decide +kernel
theorem dX5_hourIsDone_33 : decode cX5_hourIsDone 33 = .ok (.invokevirtual 173, 3) := by decide +kernel
theorem dX5_hourIsDone_36 : decode cX5_hourIsDone 36 = .ok (.iconst 0, 1) := by decide +kernel
theorem dX5_hourIsDone_37 : decode cX5_hourIsDone 37 = .ok (.ireturn, 1) := by decide +kernel
theorem dX5_hourIsDone_38 : decode cX5_hourIsDone 38 = .ok (.iinc 2 1, 3) := by decide +kernel
theorem dX5_hourIsDone_41 : decode cX5_hourIsDone 41 = .ok (.goto (-32), 3) := by decide +kernel
theorem dX5_hourIsDone_44 : decode cX5_hourIsDone 44 = .ok (.iconst 1, 1) := by decide +kernel
theorem dX5_hourIsDone_45 : decode cX5_hourIsDone 45 = .ok (.ireturn, 1) := by decide +kernel
set_option maxRecDepth 20000 in
theorem ggX5_stageIsDone_X4_size : GoodIn wsX5_stageIsDone wsX4_size := goodIn_r _ [6, 7, 95, 96, 97, 98, 99, 100, 101] (by decide +kernel) (by decide +kernel)
set_option maxRecDepth 20000 in
theorem gX5_stageIsDone_X4_size : GoodIn wsX5_stageIsDone (wsV RX5 154 RX4 yX4_size wsX4_size) := goodIn_app (goodIn_of _ (by decide +kernel)) ggX5_stageIsDone_X4_size
set_option maxRecDepth 20000 in
theorem ggX5_stageIsDone_X4_colourOf : GoodIn wsX5_stageIsDone wsX4_colourOf := goodIn_r _ [11, 12, 95, 96, 97, 98, 99, 100, 101] (by decide +kernel) (by decide +kernel)
set_option maxRecDepth 20000 in
theorem gX5_stageIsDone_X4_colourOf : GoodIn wsX5_stageIsDone (wsV RX5 122 RX4 yX4_colourOf wsX4_colourOf) := goodIn_app (goodIn_of _ (by decide +kernel)) ggX5_stageIsDone_X4_colourOf
set_option maxRecDepth 20000 in
theorem ggX5_stageIsDone_X5_zoneIsDone : GoodIn wsX5_stageIsDone wsX5_zoneIsDone := goodIn_r _ [17, 18, 19, 20, 1, 21, 22, 23, 24, 25, 26, 27, 28, 29, 30, 31, 32, 33, 34, 35, 36, 37, 38, 39, 40, 41, 42, 43, 44, 45, 46, 47, 48, 49, 50, 51, 52, 53, 54, 55, 56, 57, 5, 58, 59, 60, 61, 62, 63, 7, 64, 65, 66, 67, 68, 69, 70, 16, 71, 72, 73, 74, 75, 76, 77, 78, 79, 80, 81, 82, 83, 84, 85, 86, 87, 88, 89, 90, 91, 92, 93, 94, 102, 103, 104, 105, 106, 107, 108, 95, 96, 97, 98, 99, 100, 101] (by decide +kernel) (by decide +kernel)
set_option maxRecDepth 20000 in
theorem gX5_stageIsDone_X5_zoneIsDone : GoodIn wsX5_stageIsDone (wsV RX5 176 RX5 yX5_zoneIsDone wsX5_zoneIsDone) := goodIn_app (goodIn_of _ (by decide +kernel)) ggX5_stageIsDone_X5_zoneIsDone
theorem dX5_stageIsDone_0 : decode cX5_stageIsDone 0 = .ok (.iconst 0, 1) := by decide +kernel
theorem dX5_stageIsDone_1 : decode cX5_stageIsDone 1 = .ok (.istore_n 3, 1) := by decide +kernel
theorem dX5_stageIsDone_2 : decode cX5_stageIsDone 2 = .ok (.iload_n 3, 1) := by decide +kernel
theorem dX5_stageIsDone_3 : decode cX5_stageIsDone 3 = .ok (.aload_n 0, 1) := by decide +kernel
theorem dX5_stageIsDone_4 : decode cX5_stageIsDone 4 = .ok (.getfield 23, 3) := by decide +kernel
theorem dX5_stageIsDone_7 : decode cX5_stageIsDone 7 = .ok (.invokevirtual 154, 3) := by decide +kernel
theorem dX5_stageIsDone_10 : decode cX5_stageIsDone 10 = .ok (.if_icmp .ge 32, 3) := by decide +kernel
theorem dX5_stageIsDone_13 : decode cX5_stageIsDone 13 = .ok (.aload_n 0, 1) := by decide +kernel
theorem dX5_stageIsDone_14 : decode cX5_stageIsDone 14 = .ok (.getfield 23, 3) := by decide +kernel
theorem dX5_stageIsDone_17 : decode cX5_stageIsDone 17 = .ok (.iload_n 3, 1) := by decide +kernel
theorem dX5_stageIsDone_18 : decode cX5_stageIsDone 18 = .ok (.invokevirtual 122, 3) := by decide +kernel
theorem dX5_stageIsDone_21 : decode cX5_stageIsDone 21 = .ok (.iload_n 1, 1) := by decide +kernel
theorem dX5_stageIsDone_22 : decode cX5_stageIsDone 22 = .ok (.if_icmp .ne 14, 3) := by decide +kernel
theorem dX5_stageIsDone_25 : decode cX5_stageIsDone 25 = .ok (.aload_n 0, 1) := by decide +kernel
theorem dX5_stageIsDone_26 : decode cX5_stageIsDone 26 = .ok (.iload_n 3, 1) := by decide +kernel
theorem dX5_stageIsDone_27 : decode cX5_stageIsDone 27 = .ok (.iload_n 2, 1) := by decide +kernel
theorem dX5_stageIsDone_28 : decode cX5_stageIsDone 28 = .ok (.invokevirtual 176, 3) := by decide +kernel
theorem dX5_stageIsDone_31 : decode cX5_stageIsDone 31 = .ok (.ifCond .ne 5, 3) := by decide +kernel
theorem dX5_stageIsDone_34 : decode cX5_stageIsDone 34 = .ok (.iconst 0, 1) := by decide +kernel
theorem dX5_stageIsDone_35 : decode cX5_stageIsDone 35 = .ok (.ireturn, 1) := by decide +kernel
theorem dX5_stageIsDone_36 : decode cX5_stageIsDone 36 = .ok (.iinc 3 1, 3) := by decide +kernel
theorem dX5_stageIsDone_39 : decode cX5_stageIsDone 39 = .ok (.goto (-37), 3) := by decide +kernel
theorem dX5_stageIsDone_42 : decode cX5_stageIsDone 42 = .ok (.iconst 1, 1) := by decide +kernel
theorem dX5_stageIsDone_43 : decode cX5_stageIsDone 43 = .ok (.ireturn, 1) := by decide +kernel
set_option maxRecDepth 20000 in
theorem ggX5_zoneIsDone_X1_draw : GoodIn wsX5_zoneIsDone wsX1_draw := goodIn_r _ [9, 10, 11, 12, 13, 82, 83, 84] (by decide +kernel) (by decide +kernel)
set_option maxRecDepth 20000 in
theorem gX5_zoneIsDone_X1_draw : GoodIn wsX5_zoneIsDone (wsV RX5 179 RX1 yX1_draw wsX1_draw) := goodIn_app (goodIn_of _ (by decide +kernel)) ggX5_zoneIsDone_X1_draw
set_option maxRecDepth 20000 in
theorem ggX5_zoneIsDone_X2_has : GoodIn wsX5_zoneIsDone wsX2_has := goodIn_r _ [18, 19, 20, 17, 21, 22, 23, 24, 25, 26, 27, 28, 29, 30, 31, 85, 86] (by decide +kernel) (by decide +kernel)
set_option maxRecDepth 20000 in
theorem gX5_zoneIsDone_X2_has : GoodIn wsX5_zoneIsDone (wsV RX5 89 RX2 yX2_has wsX2_has) := goodIn_app (goodIn_of _ (by decide +kernel)) ggX5_zoneIsDone_X2_has
set_option maxRecDepth 20000 in
theorem ggX5_zoneIsDone_X0_add : GoodIn wsX5_zoneIsDone wsX0_add := goodIn_r _ [36, 37, 38, 87, 88] (by decide +kernel) (by decide +kernel)
set_option maxRecDepth 20000 in
theorem gX5_zoneIsDone_X0_add : GoodIn wsX5_zoneIsDone (wsV RX5 182 RX0 yX0_add wsX0_add) := goodIn_app (goodIn_of _ (by decide +kernel)) ggX5_zoneIsDone_X0_add
set_option maxRecDepth 20000 in
theorem ggX5_zoneIsDone_X4_change : GoodIn wsX5_zoneIsDone wsX4_change := goodIn_r _ [43, 44, 45, 46, 47, 42, 48, 49, 50, 51, 52, 53, 54, 55, 56, 57, 58, 59, 60, 61, 62, 63, 64, 65, 66, 67, 89, 90, 91, 92, 93, 94, 95] (by decide +kernel) (by decide +kernel)
set_option maxRecDepth 20000 in
theorem gX5_zoneIsDone_X4_change : GoodIn wsX5_zoneIsDone (wsV RX5 185 RX4 yX4_change wsX4_change) := goodIn_app (goodIn_of _ (by decide +kernel)) ggX5_zoneIsDone_X4_change
set_option maxRecDepth 20000 in
theorem ggX5_zoneIsDone_X1_credit : GoodIn wsX5_zoneIsDone wsX1_credit := goodIn_r _ [71, 13, 82, 83, 84] (by decide +kernel) (by decide +kernel)
set_option maxRecDepth 20000 in
theorem gX5_zoneIsDone_X1_credit : GoodIn wsX5_zoneIsDone (wsV RX5 188 RX1 yX1_credit wsX1_credit) := goodIn_app (goodIn_of _ (by decide +kernel)) ggX5_zoneIsDone_X1_credit
set_option maxRecDepth 20000 in
theorem ggX5_zoneIsDone_X1_lose : GoodIn wsX5_zoneIsDone wsX1_lose := goodIn_r _ [75, 13, 10, 82, 83, 84] (by decide +kernel) (by decide +kernel)
set_option maxRecDepth 20000 in
theorem gX5_zoneIsDone_X1_lose : GoodIn wsX5_zoneIsDone (wsV RX5 191 RX1 yX1_lose wsX1_lose) := goodIn_app (goodIn_of _ (by decide +kernel)) ggX5_zoneIsDone_X1_lose
theorem dX5_zoneIsDone_0 : decode cX5_zoneIsDone 0 = .ok (.iconst 0, 1) := by decide +kernel
theorem dX5_zoneIsDone_1 : decode cX5_zoneIsDone 1 = .ok (.istore_n 3, 1) := by decide +kernel
theorem dX5_zoneIsDone_2 : decode cX5_zoneIsDone 2 = .ok (.iload_n 3, 1) := by decide +kernel
theorem dX5_zoneIsDone_3 : decode cX5_zoneIsDone 3 = .ok (.bipush 16, 2) := by decide +kernel
theorem dX5_zoneIsDone_5 : decode cX5_zoneIsDone 5 = .ok (.if_icmp .ge 85, 3) := by decide +kernel
theorem dX5_zoneIsDone_8 : decode cX5_zoneIsDone 8 = .ok (.aload_n 0, 1) := by decide +kernel
theorem dX5_zoneIsDone_9 : decode cX5_zoneIsDone 9 = .ok (.getfield 37, 3) := by decide +kernel
theorem dX5_zoneIsDone_12 : decode cX5_zoneIsDone 12 = .ok (.invokevirtual 179, 3) := by decide +kernel
theorem dX5_zoneIsDone_15 : decode cX5_zoneIsDone 15 = .ok (.istore 4, 2) := by decide +kernel
theorem dX5_zoneIsDone_17 : decode cX5_zoneIsDone 17 = .ok (.iload 4, 2) := by decide +kernel
theorem dX5_zoneIsDone_19 : decode cX5_zoneIsDone 19 = .ok (.iconst (-1), 1) := by decide +kernel
theorem dX5_zoneIsDone_20 : decode cX5_zoneIsDone 20 = .ok (.if_icmp .ne 5, 3) := by decide +kernel
theorem dX5_zoneIsDone_23 : decode cX5_zoneIsDone 23 = .ok (.iconst 0, 1) := by decide +kernel
theorem dX5_zoneIsDone_24 : decode cX5_zoneIsDone 24 = .ok (.ireturn, 1) := by decide +kernel
theorem dX5_zoneIsDone_25 : decode cX5_zoneIsDone 25 = .ok (.aload_n 0, 1) := by decide +kernel
theorem dX5_zoneIsDone_26 : decode cX5_zoneIsDone 26 = .ok (.getfield 30, 3) := by decide +kernel
theorem dX5_zoneIsDone_29 : decode cX5_zoneIsDone 29 = .ok (.iload 4, 2) := by decide +kernel
theorem dX5_zoneIsDone_31 : decode cX5_zoneIsDone 31 = .ok (.iload_n 1, 1) := by decide +kernel
theorem dX5_zoneIsDone_32 : decode cX5_zoneIsDone 32 = .ok (.iload_n 2, 1) := by decide +kernel
theorem dX5_zoneIsDone_33 : decode cX5_zoneIsDone 33 = .ok (.invokevirtual 89, 3) := by decide +kernel
theorem dX5_zoneIsDone_36 : decode cX5_zoneIsDone 36 = .ok (.istore 5, 2) := by decide +kernel
theorem dX5_zoneIsDone_38 : decode cX5_zoneIsDone 38 = .ok (.aload_n 0, 1) := by decide +kernel
theorem dX5_zoneIsDone_39 : decode cX5_zoneIsDone 39 = .ok (.getfield 44, 3) := by decide +kernel
theorem dX5_zoneIsDone_42 : decode cX5_zoneIsDone 42 = .ok (.iload 4, 2) := by decide +kernel
theorem dX5_zoneIsDone_44 : decode cX5_zoneIsDone 44 = .ok (.iload_n 1, 1) := by decide +kernel
theorem dX5_zoneIsDone_45 : decode cX5_zoneIsDone 45 = .ok (.iload_n 2, 1) := by decide +kernel
theorem dX5_zoneIsDone_46 : decode cX5_zoneIsDone 46 = .ok (.iload 5, 2) := by decide +kernel
theorem dX5_zoneIsDone_48 : decode cX5_zoneIsDone 48 = .ok (.invokevirtual 182, 3) := by decide +kernel
theorem dX5_zoneIsDone_51 : decode cX5_zoneIsDone 51 = .ok (.iload 5, 2) := by decide +kernel
theorem dX5_zoneIsDone_53 : decode cX5_zoneIsDone 53 = .ok (.ifCond .ne 22, 3) := by decide +kernel
theorem dX5_zoneIsDone_56 : decode cX5_zoneIsDone 56 = .ok (.aload_n 0, 1) := by decide +kernel
theorem dX5_zoneIsDone_57 : decode cX5_zoneIsDone 57 = .ok (.getfield 23, 3) := by decide +kernel
theorem dX5_zoneIsDone_60 : decode cX5_zoneIsDone 60 = .ok (.iload_n 1, 1) := by decide +kernel
theorem dX5_zoneIsDone_61 : decode cX5_zoneIsDone 61 = .ok (.invokevirtual 185, 3) := by decide +kernel
theorem dX5_zoneIsDone_64 : decode cX5_zoneIsDone 64 = .ok (.aload_n 0, 1) := by decide +kernel
theorem dX5_zoneIsDone_65 : decode cX5_zoneIsDone 65 = .ok (.getfield 37, 3) := by decide +kernel
theorem dX5_zoneIsDone_68 : decode cX5_zoneIsDone 68 = .ok (.iload 4, 2) := by decide +kernel
theorem dX5_zoneIsDone_70 : decode cX5_zoneIsDone 70 = .ok (.invokevirtual 188, 3) := by decide +kernel
theorem dX5_zoneIsDone_73 : decode cX5_zoneIsDone 73 = .ok (.iconst 1, 1) := by decide +kernel
theorem dX5_zoneIsDone_74 : decode cX5_zoneIsDone 74 = .ok (.ireturn, 1) := by decide +kernel
theorem dX5_zoneIsDone_75 : decode cX5_zoneIsDone 75 = .ok (.aload_n 0, 1) := by decide +kernel
theorem dX5_zoneIsDone_76 : decode cX5_zoneIsDone 76 = .ok (.getfield 37, 3) := by decide +kernel
theorem dX5_zoneIsDone_79 : decode cX5_zoneIsDone 79 = .ok (.iload 4, 2) := by decide +kernel
theorem dX5_zoneIsDone_81 : decode cX5_zoneIsDone 81 = .ok (.invokevirtual 191, 3) := by decide +kernel
theorem dX5_zoneIsDone_84 : decode cX5_zoneIsDone 84 = .ok (.iinc 3 1, 3) := by decide +kernel
theorem dX5_zoneIsDone_87 : decode cX5_zoneIsDone 87 = .ok (.goto (-85), 3) := by decide +kernel
theorem dX5_zoneIsDone_90 : decode cX5_zoneIsDone 90 = .ok (.iconst 0, 1) := by decide +kernel
theorem dX5_zoneIsDone_91 : decode cX5_zoneIsDone 91 = .ok (.ireturn, 1) := by decide +kernel
theorem dX6_init_0 : decode cX6_init 0 = .ok (.aload_n 0, 1) := by decide +kernel
theorem dX6_init_1 : decode cX6_init 1 = .ok (.invokespecial 1, 3) := by decide +kernel
theorem dX6_init_4 : decode cX6_init 4 = .ok (.aload_n 0, 1) := by decide +kernel
theorem dX6_init_5 : decode cX6_init 5 = .ok (.sipush 576, 3) := by decide +kernel
theorem dX6_init_8 : decode cX6_init 8 = .ok (.newarray .int, 2) := by decide +kernel
theorem dX6_init_10 : decode cX6_init 10 = .ok (.putfield 7, 3) := by decide +kernel
theorem dX6_init_13 : decode cX6_init 13 = .ok (.aload_n 0, 1) := by decide +kernel
theorem dX6_init_14 : decode cX6_init 14 = .ok (.bipush 24, 2) := by decide +kernel
theorem dX6_init_16 : decode cX6_init 16 = .ok (.newarray .int, 2) := by decide +kernel
theorem dX6_init_18 : decode cX6_init 18 = .ok (.putfield 13, 3) := by decide +kernel
theorem dX6_init_21 : decode cX6_init 21 = .ok (.aload_n 0, 1) := by decide +kernel
theorem dX6_init_22 : decode cX6_init 22 = .ok (.bipush 24, 2) := by decide +kernel
theorem dX6_init_24 : decode cX6_init 24 = .ok (.newarray .int, 2) := by decide +kernel
theorem dX6_init_26 : decode cX6_init 26 = .ok (.putfield 16, 3) := by decide +kernel
theorem dX6_init_29 : decode cX6_init 29 = .ok (.aload_n 0, 1) := by decide +kernel
theorem dX6_init_30 : decode cX6_init 30 = .ok (.sipush 200, 3) := by decide +kernel
theorem dX6_init_33 : decode cX6_init 33 = .ok (.newarray .int, 2) := by decide +kernel
theorem dX6_init_35 : decode cX6_init 35 = .ok (.putfield 19, 3) := by decide +kernel
theorem dX6_init_38 : decode cX6_init 38 = .ok (.aload_n 0, 1) := by decide +kernel
theorem dX6_init_39 : decode cX6_init 39 = .ok (.sipush 200, 3) := by decide +kernel
theorem dX6_init_42 : decode cX6_init 42 = .ok (.newarray .int, 2) := by decide +kernel
theorem dX6_init_44 : decode cX6_init 44 = .ok (.putfield 22, 3) := by decide +kernel
theorem dX6_init_47 : decode cX6_init 47 = .ok (.aload_n 0, 1) := by decide +kernel
theorem dX6_init_48 : decode cX6_init 48 = .ok (.sipush 200, 3) := by decide +kernel
theorem dX6_init_51 : decode cX6_init 51 = .ok (.newarray .int, 2) := by decide +kernel
theorem dX6_init_53 : decode cX6_init 53 = .ok (.putfield 25, 3) := by decide +kernel
theorem dX6_init_56 : decode cX6_init 56 = .ok (.aload_n 0, 1) := by decide +kernel
theorem dX6_init_57 : decode cX6_init 57 = .ok (.iconst (-1), 1) := by decide +kernel
theorem dX6_init_58 : decode cX6_init 58 = .ok (.putfield 28, 3) := by decide +kernel
theorem dX6_init_61 : decode cX6_init 61 = .ok (.aload_n 0, 1) := by decide +kernel
theorem dX6_init_62 : decode cX6_init 62 = .ok (.bipush 16, 2) := by decide +kernel
theorem dX6_init_64 : decode cX6_init 64 = .ok (.newarray .boolean, 2) := by decide +kernel
theorem dX6_init_66 : decode cX6_init 66 = .ok (.putfield 32, 3) := by decide +kernel
theorem dX6_init_69 : decode cX6_init 69 = .ok (.aload_n 0, 1) := by decide +kernel
theorem dX6_init_70 : decode cX6_init 70 = .ok (.bipush 16, 2) := by decide +kernel
theorem dX6_init_72 : decode cX6_init 72 = .ok (.newarray .int, 2) := by decide +kernel
theorem dX6_init_74 : decode cX6_init 74 = .ok (.putfield 36, 3) := by decide +kernel
theorem dX6_init_77 : decode cX6_init 77 = .ok (.aload_n 0, 1) := by decide +kernel
theorem dX6_init_78 : decode cX6_init 78 = .ok (.sipush 8000, 3) := by decide +kernel
theorem dX6_init_81 : decode cX6_init 81 = .ok (.newarray .int, 2) := by decide +kernel
theorem dX6_init_83 : decode cX6_init 83 = .ok (.putfield 39, 3) := by decide +kernel
theorem dX6_init_86 : decode cX6_init 86 = .ok (.aload_n 0, 1) := by decide +kernel
theorem dX6_init_87 : decode cX6_init 87 = .ok (.bipush 24, 2) := by decide +kernel
theorem dX6_init_89 : decode cX6_init 89 = .ok (.newarray .int, 2) := by decide +kernel
theorem dX6_init_91 : decode cX6_init 91 = .ok (.putfield 42, 3) := by decide +kernel
theorem dX6_init_94 : decode cX6_init 94 = .ok (.aload_n 0, 1) := by decide +kernel
theorem dX6_init_95 : decode cX6_init 95 = .ok (.bipush 24, 2) := by decide +kernel
theorem dX6_init_97 : decode cX6_init 97 = .ok (.newarray .boolean, 2) := by decide +kernel
theorem dX6_init_99 : decode cX6_init 99 = .ok (.putfield 45, 3) := by decide +kernel
theorem dX6_init_102 : decode cX6_init 102 = .ok (.aload_n 0, 1) := by decide +kernel
theorem dX6_init_103 : decode cX6_init 103 = .ok (.bipush 16, 2) := by decide +kernel
theorem dX6_init_105 : decode cX6_init 105 = .ok (.newarray .int, 2) := by decide +kernel
theorem dX6_init_107 : decode cX6_init 107 = .ok (.putfield 48, 3) := by decide +kernel
theorem dX6_init_110 : decode cX6_init 110 = .ok (.aload_n 0, 1) := by decide +kernel
theorem dX6_init_111 : decode cX6_init 111 = .ok (.bipush 16, 2) := by decide +kernel
theorem dX6_init_113 : decode cX6_init 113 = .ok (.newarray .int, 2) := by decide +kernel
theorem dX6_init_115 : decode cX6_init 115 = .ok (.putfield 51, 3) := by decide +kernel
theorem dX6_init_118 : decode cX6_init 118 = .ok (.aload_n 0, 1) := by decide +kernel
theorem dX6_init_119 : decode cX6_init 119 = .ok (.bipush 16, 2) := by decide +kernel
theorem dX6_init_121 : decode cX6_init 121 = .ok (.newarray .int, 2) := by decide +kernel
theorem dX6_init_123 : decode cX6_init 123 = .ok (.putfield 54, 3) := by decide +kernel
theorem dX6_init_126 : decode cX6_init 126 = .ok (.aload_n 0, 1) := by decide +kernel
theorem dX6_init_127 : decode cX6_init 127 = .ok (.bipush 16, 2) := by decide +kernel
theorem dX6_init_129 : decode cX6_init 129 = .ok (.newarray .int, 2) := by decide +kernel
theorem dX6_init_131 : decode cX6_init 131 = .ok (.putfield 57, 3) := by decide +kernel
theorem dX6_init_134 : decode cX6_init 134 = .ok (.aload_n 0, 1) := by decide +kernel
theorem dX6_init_135 : decode cX6_init 135 = .ok (.sipush 4096, 3) := by decide +kernel
theorem dX6_init_138 : decode cX6_init 138 = .ok (.newarray .boolean, 2) := by decide +kernel
theorem dX6_init_140 : decode cX6_init 140 = .ok (.putfield 60, 3) := by decide +kernel
theorem dX6_init_143 : decode cX6_init 143 = .ok (.aload_n 0, 1) := by decide +kernel
theorem dX6_init_144 : decode cX6_init 144 = .ok (.sipush 4096, 3) := by decide +kernel
theorem dX6_init_147 : decode cX6_init 147 = .ok (.newarray .int, 2) := by decide +kernel
theorem dX6_init_149 : decode cX6_init 149 = .ok (.putfield 63, 3) := by decide +kernel
theorem dX6_init_152 : decode cX6_init 152 = .ok (.aload_n 0, 1) := by decide +kernel
theorem dX6_init_153 : decode cX6_init 153 = .ok (.sipush 4096, 3) := by decide +kernel
theorem dX6_init_156 : decode cX6_init 156 = .ok (.newarray .int, 2) := by decide +kernel
theorem dX6_init_158 : decode cX6_init 158 = .ok (.putfield 66, 3) := by decide +kernel
theorem dX6_init_161 : decode cX6_init 161 = .ok (.aload_n 0, 1) := by decide +kernel
theorem dX6_init_162 : decode cX6_init 162 = .ok (.iload_n 1, 1) := by decide +kernel
theorem dX6_init_163 : decode cX6_init 163 = .ok (.iconst 1, 1) := by decide +kernel
theorem dX6_init_164 : decode cX6_init 164 = .ok (.if_icmp .ge 7, 3) := by decide +kernel
theorem dX6_init_167 : decode cX6_init 167 = .ok (.iconst 1, 1) := by decide +kernel
theorem dX6_init_168 : decode cX6_init 168 = .ok (.goto 15, 3) := by decide +kernel
theorem dX6_init_171 : decode cX6_init 171 = .ok (.iload_n 1, 1) := by decide +kernel
theorem dX6_init_172 : decode cX6_init 172 = .ok (.bipush 24, 2) := by decide +kernel
theorem dX6_init_174 : decode cX6_init 174 = .ok (.if_icmp .le 8, 3) := by decide +kernel
theorem dX6_init_177 : decode cX6_init 177 = .ok (.bipush 24, 2) := by decide +kernel
theorem dX6_init_179 : decode cX6_init 179 = .ok (.goto 4, 3) := by decide +kernel
theorem dX6_init_182 : decode cX6_init 182 = .ok (.iload_n 1, 1) := by decide +kernel
theorem dX6_init_183 : decode cX6_init 183 = .ok (.putfield 69, 3) := by decide +kernel
theorem dX6_init_186 : decode cX6_init 186 = .ok (.return_, 1) := by decide +kernel
theorem dX6_thrown_0 : decode cX6_thrown 0 = .ok (.aload_n 0, 1) := by decide +kernel
theorem dX6_thrown_1 : decode cX6_thrown 1 = .ok (.getfield 72, 3) := by decide +kernel
theorem dX6_thrown_4 : decode cX6_thrown 4 = .ok (.ireturn, 1) := by decide +kernel
theorem dX6_isIn_0 : decode cX6_isIn 0 = .ok (.iload_n 0, 1) := by decide +kernel
theorem dX6_isIn_1 : decode cX6_isIn 1 = .ok (.iload_n 1, 1) := by decide +kernel
theorem dX6_isIn_2 : decode cX6_isIn 2 = .ok (.if_icmp .lt 12, 3) := by decide +kernel
theorem dX6_isIn_5 : decode cX6_isIn 5 = .ok (.iload_n 0, 1) := by decide +kernel
theorem dX6_isIn_6 : decode cX6_isIn 6 = .ok (.iload_n 2, 1) := by decide +kernel
theorem dX6_isIn_7 : decode cX6_isIn 7 = .ok (.if_icmp .gt 7, 3) := by decide +kernel
theorem dX6_isIn_10 : decode cX6_isIn 10 = .ok (.iconst 1, 1) := by decide +kernel
theorem dX6_isIn_11 : decode cX6_isIn 11 = .ok (.goto 4, 3) := by decide +kernel
theorem dX6_isIn_14 : decode cX6_isIn 14 = .ok (.iconst 0, 1) := by decide +kernel
theorem dX6_isIn_15 : decode cX6_isIn 15 = .ok (.ireturn, 1) := by decide +kernel
theorem dX6_noZone_0 : decode cX6_noZone 0 = .ok (.iload_n 1, 1) := by decide +kernel
theorem dX6_noZone_1 : decode cX6_noZone 1 = .ok (.ifCond .lt 11, 3) := by decide +kernel
theorem dX6_noZone_4 : decode cX6_noZone 4 = .ok (.iload_n 1, 1) := by decide +kernel
theorem dX6_noZone_5 : decode cX6_noZone 5 = .ok (.aload_n 0, 1) := by decide +kernel
theorem dX6_noZone_6 : decode cX6_noZone 6 = .ok (.getfield 69, 3) := by decide +kernel
theorem dX6_noZone_9 : decode cX6_noZone 9 = .ok (.if_icmp .lt 7, 3) := by decide +kernel
theorem dX6_noZone_12 : decode cX6_noZone 12 = .ok (.iconst 1, 1) := by decide +kernel
theorem dX6_noZone_13 : decode cX6_noZone 13 = .ok (.goto 4, 3) := by decide +kernel
theorem dX6_noZone_16 : decode cX6_noZone 16 = .ok (.iconst 0, 1) := by decide +kernel
theorem dX6_noZone_17 : decode cX6_noZone 17 = .ok (.ireturn, 1) := by decide +kernel
theorem dX6_within_0 : decode cX6_within 0 = .ok (.lload_n 0, 1) := by decide +kernel
theorem dX6_within_1 : decode cX6_within 1 = .ok (.ldc2_w 75, 3) := by decide +kernel
theorem dX6_within_4 : decode cX6_within 4 = .ok (.lcmp, 1) := by decide +kernel
theorem dX6_within_5 : decode cX6_within 5 = .ok (.ifCond .ge 8, 3) := by decide +kernel
theorem dX6_within_8 : decode cX6_within 8 = .ok (.ldc 77, 2) := by decide +kernel
theorem dX6_within_10 : decode cX6_within 10 = .ok (.goto 18, 3) := by decide +kernel
theorem dX6_within_13 : decode cX6_within 13 = .ok (.lload_n 0, 1) := by decide +kernel
theorem dX6_within_14 : decode cX6_within 14 = .ok (.ldc2_w 78, 3) := by decide +kernel
theorem dX6_within_17 : decode cX6_within 17 = .ok (.lcmp, 1) := by decide +kernel
theorem dX6_within_18 : decode cX6_within 18 = .ok (.ifCond .le 8, 3) := by decide +kernel
theorem dX6_within_21 : decode cX6_within 21 = .ok (.ldc 80, 2) := by decide +kernel
theorem dX6_within_23 : decode cX6_within 23 = .ok (.goto 5, 3) := by decide +kernel
theorem dX6_within_26 : decode cX6_within 26 = .ok (.lload_n 0, 1) := by decide +kernel
theorem dX6_within_27 : decode cX6_within 27 = .ok (.l2i, 1) := by decide +kernel
theorem dX6_within_28 : decode cX6_within 28 = .ok (.ireturn, 1) := by decide +kernel
set_option maxRecDepth 20000 in
theorem ggX6_wall_X6_noZone : GoodIn wsX6_wall wsX6_noZone := goodIn_r _ [7, 8, 12, 13, 14, 15, 16, 17, 18, 19, 20, 21, 22, 23, 24, 25, 26, 27, 28, 29, 30, 31, 32, 33, 34, 35, 36, 37, 38] (by decide +kernel) (by decide +kernel)
set_option maxRecDepth 20000 in
theorem gX6_wall_X6_noZone : GoodIn wsX6_wall (wsV RX6 81 RX6 yX6_noZone wsX6_noZone) := goodIn_app (goodIn_of _ (by decide +kernel)) ggX6_wall_X6_noZone
set_option maxRecDepth 20000 in
theorem ggX6_wall_X6_isIn : GoodIn wsX6_wall wsX6_isIn := goodIn_r _ [11] (by decide +kernel) (by decide +kernel)
set_option maxRecDepth 20000 in
theorem gX6_wall_X6_isIn : GoodIn wsX6_wall (va_wsS RX6 85 yX6_isIn wsX6_isIn) := goodIn_app (goodIn_of _ (by decide +kernel)) ggX6_wall_X6_isIn
theorem dX6_wall_0 : decode cX6_wall 0 = .ok (.aload_n 0, 1) := by decide +kernel
theorem dX6_wall_1 : decode cX6_wall 1 = .ok (.aload_n 0, 1) := by decide +kernel
theorem dX6_wall_2 : decode cX6_wall 2 = .ok (.iload_n 1, 1) := by decide +kernel
theorem dX6_wall_3 : decode cX6_wall 3 = .ok (.invokevirtual 81, 3) := by decide +kernel
theorem dX6_wall_6 : decode cX6_wall 6 = .ok (.ifCond .ne 26, 3) := by decide +kernel
theorem dX6_wall_9 : decode cX6_wall 9 = .ok (.aload_n 0, 1) := by decide +kernel
theorem dX6_wall_10 : decode cX6_wall 10 = .ok (.iload_n 2, 1) := by decide +kernel
theorem dX6_wall_11 : decode cX6_wall 11 = .ok (.invokevirtual 81, 3) := by decide +kernel
theorem dX6_wall_14 : decode cX6_wall 14 = .ok (.ifCond .ne 18, 3) := by decide +kernel
theorem dX6_wall_17 : decode cX6_wall 17 = .ok (.iload_n 1, 1) := by decide +kernel
theorem dX6_wall_18 : decode cX6_wall 18 = .ok (.iload_n 2, 1) := by decide +kernel
theorem dX6_wall_19 : decode cX6_wall 19 = .ok (.if_icmp .eq 13, 3) := by decide +kernel
theorem dX6_wall_22 : decode cX6_wall 22 = .ok (.iload_n 3, 1) := by decide +kernel
theorem dX6_wall_23 : decode cX6_wall 23 = .ok (.iconst 0, 1) := by decide +kernel
theorem dX6_wall_24 : decode cX6_wall 24 = .ok (.bipush 100, 2) := by decide +kernel
theorem dX6_wall_26 : decode cX6_wall 26 = .ok (.invokestatic 85, 3) := by decide +kernel
theorem dX6_wall_29 : decode cX6_wall 29 = .ok (.ifCond .ne 7, 3) := by decide +kernel
theorem dX6_wall_32 : decode cX6_wall 32 = .ok (.iconst 1, 1) := by decide +kernel
theorem dX6_wall_33 : decode cX6_wall 33 = .ok (.goto 4, 3) := by decide +kernel
theorem dX6_wall_36 : decode cX6_wall 36 = .ok (.iconst 0, 1) := by decide +kernel
theorem dX6_wall_37 : decode cX6_wall 37 = .ok (.putfield 72, 3) := by decide +kernel
theorem dX6_wall_40 : decode cX6_wall 40 = .ok (.aload_n 0, 1) := by decide +kernel
theorem dX6_wall_41 : decode cX6_wall 41 = .ok (.getfield 72, 3) := by decide +kernel
theorem dX6_wall_44 : decode cX6_wall 44 = .ok (.ifCond .le 5, 3) := by decide +kernel
theorem dX6_wall_47 : decode cX6_wall 47 = .ok (.iconst 0, 1) := by decide +kernel
theorem dX6_wall_48 : decode cX6_wall 48 = .ok (.ireturn, 1) := by decide +kernel
theorem dX6_wall_49 : decode cX6_wall 49 = .ok (.aload_n 0, 1) := by decide +kernel
theorem dX6_wall_50 : decode cX6_wall 50 = .ok (.getfield 7, 3) := by decide +kernel
theorem dX6_wall_53 : decode cX6_wall 53 = .ok (.bipush 24, 2) := by decide +kernel
theorem dX6_wall_55 : decode cX6_wall 55 = .ok (.iload_n 1, 1) := by decide +kernel
theorem dX6_wall_56 : decode cX6_wall 56 = .ok (.imul, 1) := by decide +kernel
theorem dX6_wall_57 : decode cX6_wall 57 = .ok (.iload_n 2, 1) := by decide +kernel
theorem dX6_wall_58 : decode cX6_wall 58 = .ok (.iadd, 1) := by decide +kernel
theorem dX6_wall_59 : decode cX6_wall 59 = .ok (.iaload, 1) := by decide +kernel
theorem dX6_wall_60 : decode cX6_wall 60 = .ok (.istore 4, 2) := by decide +kernel
theorem dX6_wall_62 : decode cX6_wall 62 = .ok (.aload_n 0, 1) := by decide +kernel
theorem dX6_wall_63 : decode cX6_wall 63 = .ok (.getfield 7, 3) := by decide +kernel
theorem dX6_wall_66 : decode cX6_wall 66 = .ok (.bipush 24, 2) := by decide +kernel
theorem dX6_wall_68 : decode cX6_wall 68 = .ok (.iload_n 1, 1) := by decide +kernel
theorem dX6_wall_69 : decode cX6_wall 69 = .ok (.imul, 1) := by decide +kernel
theorem dX6_wall_70 : decode cX6_wall 70 = .ok (.iload_n 2, 1) := by decide +kernel
theorem dX6_wall_71 : decode cX6_wall 71 = .ok (.iadd, 1) := by decide +kernel
theorem dX6_wall_72 : decode cX6_wall 72 = .ok (.iload_n 3, 1) := by decide +kernel
theorem dX6_wall_73 : decode cX6_wall 73 = .ok (.iastore, 1) := by decide +kernel
theorem dX6_wall_74 : decode cX6_wall 74 = .ok (.aload_n 0, 1) := by decide +kernel
theorem dX6_wall_75 : decode cX6_wall 75 = .ok (.getfield 7, 3) := by decide +kernel
theorem dX6_wall_78 : decode cX6_wall 78 = .ok (.bipush 24, 2) := by decide +kernel
theorem dX6_wall_80 : decode cX6_wall 80 = .ok (.iload_n 2, 1) := by decide +kernel
theorem dX6_wall_81 : decode cX6_wall 81 = .ok (.imul, 1) := by decide +kernel
theorem dX6_wall_82 : decode cX6_wall 82 = .ok (.iload_n 1, 1) := by decide +kernel
theorem dX6_wall_83 : decode cX6_wall 83 = .ok (.iadd, 1) := by decide +kernel
theorem dX6_wall_84 : decode cX6_wall 84 = .ok (.iload_n 3, 1) := by decide +kernel
theorem dX6_wall_85 : decode cX6_wall 85 = .ok (.iastore, 1) := by decide +kernel
theorem dX6_wall_86 : decode cX6_wall 86 = .ok (.iload 4, 2) := by decide +kernel
theorem dX6_wall_88 : decode cX6_wall 88 = .ok (.ireturn, 1) := by decide +kernel
set_option maxRecDepth 20000 in
theorem ggX6_value_X6_noZone : GoodIn wsX6_value wsX6_noZone := goodIn_r _ [9, 10, 14, 15, 16, 17, 18, 19, 20, 21, 22, 23, 24, 25, 26, 27, 28, 29, 30, 31, 32, 33, 34, 35, 36, 37, 38, 39, 40] (by decide +kernel) (by decide +kernel)
set_option maxRecDepth 20000 in
theorem gX6_value_X6_noZone : GoodIn wsX6_value (wsV RX6 81 RX6 yX6_noZone wsX6_noZone) := goodIn_app (goodIn_of _ (by decide +kernel)) ggX6_value_X6_noZone
set_option maxRecDepth 20000 in
theorem ggX6_value_X6_isIn : GoodIn wsX6_value wsX6_isIn := goodIn_r _ [13] (by decide +kernel) (by decide +kernel)
set_option maxRecDepth 20000 in
theorem gX6_value_X6_isIn : GoodIn wsX6_value (va_wsS RX6 85 yX6_isIn wsX6_isIn) := goodIn_app (goodIn_of _ (by decide +kernel)) ggX6_value_X6_isIn
theorem dX6_value_0 : decode cX6_value 0 = .ok (.aload_n 0, 1) := by decide +kernel
theorem dX6_value_1 : decode cX6_value 1 = .ok (.aload_n 0, 1) := by decide +kernel
theorem dX6_value_2 : decode cX6_value 2 = .ok (.iload_n 1, 1) := by decide +kernel
theorem dX6_value_3 : decode cX6_value 3 = .ok (.invokevirtual 81, 3) := by decide +kernel
theorem dX6_value_6 : decode cX6_value 6 = .ok (.ifCond .ne 14, 3) := by decide +kernel
theorem dX6_value_9 : decode cX6_value 9 = .ok (.iload_n 2, 1) := by decide +kernel
theorem dX6_value_10 : decode cX6_value 10 = .ok (.ldc 77, 2) := by decide +kernel
theorem dX6_value_12 : decode cX6_value 12 = .ok (.ldc 80, 2) := by decide +kernel
theorem dX6_value_14 : decode cX6_value 14 = .ok (.invokestatic 85, 3) := by decide +kernel
theorem dX6_value_17 : decode cX6_value 17 = .ok (.ifCond .ne 7, 3) := by decide +kernel
theorem dX6_value_20 : decode cX6_value 20 = .ok (.iconst 1, 1) := by decide +kernel
theorem dX6_value_21 : decode cX6_value 21 = .ok (.goto 4, 3) := by decide +kernel
theorem dX6_value_24 : decode cX6_value 24 = .ok (.iconst 0, 1) := by decide +kernel
theorem dX6_value_25 : decode cX6_value 25 = .ok (.putfield 72, 3) := by decide +kernel
theorem dX6_value_28 : decode cX6_value 28 = .ok (.aload_n 0, 1) := by decide +kernel
theorem dX6_value_29 : decode cX6_value 29 = .ok (.getfield 72, 3) := by decide +kernel
theorem dX6_value_32 : decode cX6_value 32 = .ok (.ifCond .le 5, 3) := by decide +kernel
theorem dX6_value_35 : decode cX6_value 35 = .ok (.iconst 0, 1) := by decide +kernel
theorem dX6_value_36 : decode cX6_value 36 = .ok (.ireturn, 1) := by decide +kernel
theorem dX6_value_37 : decode cX6_value 37 = .ok (.aload_n 0, 1) := by decide +kernel
theorem dX6_value_38 : decode cX6_value 38 = .ok (.getfield 13, 3) := by decide +kernel
theorem dX6_value_41 : decode cX6_value 41 = .ok (.iload_n 1, 1) := by decide +kernel
theorem dX6_value_42 : decode cX6_value 42 = .ok (.iaload, 1) := by decide +kernel
theorem dX6_value_43 : decode cX6_value 43 = .ok (.istore_n 3, 1) := by decide +kernel
theorem dX6_value_44 : decode cX6_value 44 = .ok (.aload_n 0, 1) := by decide +kernel
theorem dX6_value_45 : decode cX6_value 45 = .ok (.getfield 13, 3) := by decide +kernel
theorem dX6_value_48 : decode cX6_value 48 = .ok (.iload_n 1, 1) := by decide +kernel
theorem dX6_value_49 : decode cX6_value 49 = .ok (.iload_n 2, 1) := by decide +kernel
theorem dX6_value_50 : decode cX6_value 50 = .ok (.iastore, 1) := by decide +kernel
theorem dX6_value_51 : decode cX6_value 51 = .ok (.iload_n 3, 1) := by decide +kernel
theorem dX6_value_52 : decode cX6_value 52 = .ok (.ireturn, 1) := by decide +kernel
theorem dX6_failing_0 : decode cX6_failing 0 = .ok (.iconst 0, 1) := by decide +kernel
theorem dX6_failing_1 : decode cX6_failing 1 = .ok (.istore 4, 2) := by decide +kernel
theorem dX6_failing_3 : decode cX6_failing 3 = .ok (.iload 4, 2) := by decide +kernel
theorem dX6_failing_5 : decode cX6_failing 5 = .ok (.aload_n 0, 1) := by decide +kernel
theorem dX6_failing_6 : decode cX6_failing 6 = .ok (.getfield 89, 3) := by decide +kernel
theorem dX6_failing_9 : decode cX6_failing 9 = .ok (.if_icmp .ge 45, 3) := by decide +kernel
theorem dX6_failing_12 : decode cX6_failing 12 = .ok (.aload_n 0, 1) := by decide +kernel
theorem dX6_failing_13 : decode cX6_failing 13 = .ok (.getfield 19, 3) := by decide +kernel
theorem dX6_failing_16 : decode cX6_failing 16 = .ok (.iload 4, 2) := by decide +kernel
theorem dX6_failing_18 : decode cX6_failing 18 = .ok (.iaload, 1) := by decide +kernel
theorem dX6_failing_19 : decode cX6_failing 19 = .ok (.iload_n 1, 1) := by decide +kernel
theorem dX6_failing_20 : decode cX6_failing 20 = .ok (.if_icmp .ne 28, 3) := by decide +kernel
theorem dX6_failing_23 : decode cX6_failing 23 = .ok (.aload_n 0, 1) := by decide +kernel
theorem dX6_failing_24 : decode cX6_failing 24 = .ok (.getfield 22, 3) := by decide +kernel
theorem dX6_failing_27 : decode cX6_failing 27 = .ok (.iload 4, 2) := by decide +kernel
theorem dX6_failing_29 : decode cX6_failing 29 = .ok (.iaload, 1) := by decide +kernel
theorem dX6_failing_30 : decode cX6_failing 30 = .ok (.iload_n 2, 1) := by decide +kernel
theorem dX6_failing_31 : decode cX6_failing 31 = .ok (.if_icmp .ne 17, 3) := by decide +kernel
theorem dX6_failing_34 : decode cX6_failing 34 = .ok (.aload_n 0, 1) := by decide +kernel
theorem dX6_failing_35 : decode cX6_failing 35 = .ok (.getfield 25, 3) := by decide +kernel
theorem dX6_failing_38 : decode cX6_failing 38 = .ok (.iload 4, 2) := by decide +kernel
theorem dX6_failing_40 : decode cX6_failing 40 = .ok (.iaload, 1) := by decide +kernel
theorem dX6_failing_41 : decode cX6_failing 41 = .ok (.iload_n 3, 1) := by decide +kernel
theorem dX6_failing_42 : decode cX6_failing 42 = .ok (.if_icmp .ne 6, 3) := by decide +kernel
theorem dX6_failing_45 : decode cX6_failing 45 = .ok (.iload 4, 2) := by decide +kernel
theorem dX6_failing_47 : decode cX6_failing 47 = .ok (.ireturn, 1) := by decide +kernel
theorem dX6_failing_48 : decode cX6_failing 48 = .ok (.iinc 4 1, 3) := by decide +kernel
theorem dX6_failing_51 : decode cX6_failing 51 = .ok (.goto (-48), 3) := by decide +kernel
theorem dX6_failing_54 : decode cX6_failing 54 = .ok (.iconst (-1), 1) := by decide +kernel
theorem dX6_failing_55 : decode cX6_failing 55 = .ok (.ireturn, 1) := by decide +kernel
set_option maxRecDepth 20000 in
theorem ggX6_fails_X6_isIn : GoodIn wsX6_fails wsX6_isIn := goodIn_r _ [9] (by decide +kernel) (by decide +kernel)
set_option maxRecDepth 20000 in
theorem gX6_fails_X6_isIn : GoodIn wsX6_fails (va_wsS RX6 85 yX6_isIn wsX6_isIn) := goodIn_app (goodIn_of _ (by decide +kernel)) ggX6_fails_X6_isIn
set_option maxRecDepth 20000 in
theorem ggX6_fails_X6_noZone : GoodIn wsX6_fails wsX6_noZone := goodIn_r _ [13, 14, 19, 20, 21, 22, 23, 24, 25, 26, 27, 28, 29, 30, 31, 32, 33, 34, 35, 36, 37, 38, 39, 40, 41, 42, 43, 44, 45] (by decide +kernel) (by decide +kernel)
set_option maxRecDepth 20000 in
theorem gX6_fails_X6_noZone : GoodIn wsX6_fails (wsV RX6 81 RX6 yX6_noZone wsX6_noZone) := goodIn_app (goodIn_of _ (by decide +kernel)) ggX6_fails_X6_noZone
set_option maxRecDepth 20000 in
theorem ggX6_fails_X6_failing : GoodIn wsX6_fails wsX6_failing := goodIn_r _ [18, 1, 3, 4, 5, 19, 20, 21, 22, 23, 24, 25, 26, 27, 28, 29, 30, 31, 32, 33, 34, 35, 36, 37, 38, 39, 40, 41, 42, 43, 44, 45] (by decide +kernel) (by decide +kernel)
set_option maxRecDepth 20000 in
theorem gX6_fails_X6_failing : GoodIn wsX6_fails (wsV RX6 92 RX6 yX6_failing wsX6_failing) := goodIn_app (goodIn_of _ (by decide +kernel)) ggX6_fails_X6_failing
theorem dX6_fails_0 : decode cX6_fails 0 = .ok (.iload_n 1, 1) := by decide +kernel
theorem dX6_fails_1 : decode cX6_fails 1 = .ok (.iconst 0, 1) := by decide +kernel
theorem dX6_fails_2 : decode cX6_fails 2 = .ok (.bipush 15, 2) := by decide +kernel
theorem dX6_fails_4 : decode cX6_fails 4 = .ok (.invokestatic 85, 3) := by decide +kernel
theorem dX6_fails_7 : decode cX6_fails 7 = .ok (.ifCond .eq 26, 3) := by decide +kernel
theorem dX6_fails_10 : decode cX6_fails 10 = .ok (.aload_n 0, 1) := by decide +kernel
theorem dX6_fails_11 : decode cX6_fails 11 = .ok (.iload_n 2, 1) := by decide +kernel
theorem dX6_fails_12 : decode cX6_fails 12 = .ok (.invokevirtual 81, 3) := by decide +kernel
theorem dX6_fails_15 : decode cX6_fails 15 = .ok (.ifCond .ne 18, 3) := by decide +kernel
theorem dX6_fails_18 : decode cX6_fails 18 = .ok (.iload_n 3, 1) := by decide +kernel
theorem dX6_fails_19 : decode cX6_fails 19 = .ok (.iconst 0, 1) := by decide +kernel
theorem dX6_fails_20 : decode cX6_fails 20 = .ok (.sipush 999, 3) := by decide +kernel
theorem dX6_fails_23 : decode cX6_fails 23 = .ok (.invokestatic 85, 3) := by decide +kernel
theorem dX6_fails_26 : decode cX6_fails 26 = .ok (.ifCond .eq 7, 3) := by decide +kernel
theorem dX6_fails_29 : decode cX6_fails 29 = .ok (.iconst 1, 1) := by decide +kernel
theorem dX6_fails_30 : decode cX6_fails 30 = .ok (.goto 4, 3) := by decide +kernel
theorem dX6_fails_33 : decode cX6_fails 33 = .ok (.iconst 0, 1) := by decide +kernel
theorem dX6_fails_34 : decode cX6_fails 34 = .ok (.istore 5, 2) := by decide +kernel
theorem dX6_fails_36 : decode cX6_fails 36 = .ok (.iload 5, 2) := by decide +kernel
theorem dX6_fails_38 : decode cX6_fails 38 = .ok (.ifCond .eq 13, 3) := by decide +kernel
theorem dX6_fails_41 : decode cX6_fails 41 = .ok (.aload_n 0, 1) := by decide +kernel
theorem dX6_fails_42 : decode cX6_fails 42 = .ok (.iload_n 1, 1) := by decide +kernel
theorem dX6_fails_43 : decode cX6_fails 43 = .ok (.iload_n 2, 1) := by decide +kernel
theorem dX6_fails_44 : decode cX6_fails 44 = .ok (.iload_n 3, 1) := by decide +kernel
theorem dX6_fails_45 : decode cX6_fails 45 = .ok (.invokevirtual 92, 3) := by decide +kernel
theorem dX6_fails_48 : decode cX6_fails 48 = .ok (.goto 4, 3) := by decide +kernel
theorem dX6_fails_51 : decode cX6_fails 51 = .ok (.iconst (-1), 1) := by decide +kernel
theorem dX6_fails_52 : decode cX6_fails 52 = .ok (.istore 6, 2) := by decide +kernel
theorem dX6_fails_54 : decode cX6_fails 54 = .ok (.aload_n 0, 1) := by decide +kernel
theorem dX6_fails_55 : decode cX6_fails 55 = .ok (.iload 5, 2) := by decide +kernel
theorem dX6_fails_57 : decode cX6_fails 57 = .ok (.ifCond .ne 7, 3) := by decide +kernel
theorem dX6_fails_60 : decode cX6_fails 60 = .ok (.iconst 1, 1) := by decide +kernel
theorem dX6_fails_61 : decode cX6_fails 61 = .ok (.goto 29, 3) := by decide +kernel
theorem dX6_fails_64 : decode cX6_fails 64 = .ok (.iload 4, 2) := by decide +kernel
theorem dX6_fails_66 : decode cX6_fails 66 = .ok (.ifCond .eq 23, 3) := by decide +kernel
theorem dX6_fails_69 : decode cX6_fails 69 = .ok (.iload 6, 2) := by decide +kernel
theorem dX6_fails_71 : decode cX6_fails 71 = .ok (.iconst (-1), 1) := by decide +kernel
theorem dX6_fails_72 : decode cX6_fails 72 = .ok (.if_icmp .ne 17, 3) := by decide +kernel
theorem dX6_fails_75 : decode cX6_fails 75 = .ok (.aload_n 0, 1) := by decide +kernel
theorem dX6_fails_76 : decode cX6_fails 76 = .ok (.getfield 89, 3) := by decide +kernel
theorem dX6_fails_79 : decode cX6_fails 79 = .ok (.sipush 200, 3) := by decide +kernel
theorem dX6_fails_82 : decode cX6_fails 82 = .ok (.if_icmp .ne 7, 3) := by decide +kernel
theorem dX6_fails_85 : decode cX6_fails 85 = .ok (.iconst 2, 1) := by decide +kernel
theorem dX6_fails_86 : decode cX6_fails 86 = .ok (.goto 4, 3) := by decide +kernel
theorem dX6_fails_89 : decode cX6_fails 89 = .ok (.iconst 0, 1) := by decide +kernel
theorem dX6_fails_90 : decode cX6_fails 90 = .ok (.putfield 72, 3) := by decide +kernel
theorem dX6_fails_93 : decode cX6_fails 93 = .ok (.aload_n 0, 1) := by decide +kernel
theorem dX6_fails_94 : decode cX6_fails 94 = .ok (.getfield 72, 3) := by decide +kernel
theorem dX6_fails_97 : decode cX6_fails 97 = .ok (.ifCond .le 5, 3) := by decide +kernel
theorem dX6_fails_100 : decode cX6_fails 100 = .ok (.iconst 0, 1) := by decide +kernel
theorem dX6_fails_101 : decode cX6_fails 101 = .ok (.ireturn, 1) := by decide +kernel
theorem dX6_fails_102 : decode cX6_fails 102 = .ok (.iload 4, 2) := by decide +kernel
theorem dX6_fails_104 : decode cX6_fails 104 = .ok (.ifCond .eq 49, 3) := by decide +kernel
theorem dX6_fails_107 : decode cX6_fails 107 = .ok (.iload 6, 2) := by decide +kernel
theorem dX6_fails_109 : decode cX6_fails 109 = .ok (.iconst (-1), 1) := by decide +kernel
theorem dX6_fails_110 : decode cX6_fails 110 = .ok (.if_icmp .ne 43, 3) := by decide +kernel
theorem dX6_fails_113 : decode cX6_fails 113 = .ok (.aload_n 0, 1) := by decide +kernel
theorem dX6_fails_114 : decode cX6_fails 114 = .ok (.getfield 19, 3) := by decide +kernel
theorem dX6_fails_117 : decode cX6_fails 117 = .ok (.aload_n 0, 1) := by decide +kernel
theorem dX6_fails_118 : decode cX6_fails 118 = .ok (.getfield 89, 3) := by decide +kernel
theorem dX6_fails_121 : decode cX6_fails 121 = .ok (.iload_n 1, 1) := by decide +kernel
theorem dX6_fails_122 : decode cX6_fails 122 = .ok (.iastore, 1) := by decide +kernel
theorem dX6_fails_123 : decode cX6_fails 123 = .ok (.aload_n 0, 1) := by decide +kernel
theorem dX6_fails_124 : decode cX6_fails 124 = .ok (.getfield 22, 3) := by decide +kernel
theorem dX6_fails_127 : decode cX6_fails 127 = .ok (.aload_n 0, 1) := by decide +kernel
theorem dX6_fails_128 : decode cX6_fails 128 = .ok (.getfield 89, 3) := by decide +kernel
theorem dX6_fails_131 : decode cX6_fails 131 = .ok (.iload_n 2, 1) := by decide +kernel
theorem dX6_fails_132 : decode cX6_fails 132 = .ok (.iastore, 1) := by decide +kernel
theorem dX6_fails_133 : decode cX6_fails 133 = .ok (.aload_n 0, 1) := by decide +kernel
theorem dX6_fails_134 : decode cX6_fails 134 = .ok (.getfield 25, 3) := by decide +kernel
theorem dX6_fails_137 : decode cX6_fails 137 = .ok (.aload_n 0, 1) := by decide +kernel
theorem dX6_fails_138 : decode cX6_fails 138 = .ok (.getfield 89, 3) := by decide +kernel
theorem dX6_fails_141 : decode cX6_fails 141 = .ok (.iload_n 3, 1) := by decide +kernel
theorem dX6_fails_142 : decode cX6_fails 142 = .ok (.iastore, 1) := by decide +kernel
theorem dX6_fails_143 : decode cX6_fails 143 = .ok (.aload_n 0, 1) := by decide +kernel
theorem dX6_fails_144 : decode cX6_fails 144 = .ok (.dup, 1) := by decide +kernel
theorem dX6_fails_145 : decode cX6_fails 145 = .ok (.getfield 89, 3) := by decide +kernel
theorem dX6_fails_148 : decode cX6_fails 148 = .ok (.iconst 1, 1) := by decide +kernel
theorem dX6_fails_149 : decode cX6_fails 149 = .ok (.iadd, 1) := by decide +kernel
theorem dX6_fails_150 : decode cX6_fails 150 = .ok (.putfield 89, 3) := by decide +kernel
theorem dX6_fails_153 : decode cX6_fails 153 = .ok (.iload 4, 2) := by decide +kernel
theorem dX6_fails_155 : decode cX6_fails 155 = .ok (.ifCond .ne 67, 3) := by decide +kernel
theorem dX6_fails_158 : decode cX6_fails 158 = .ok (.iload 6, 2) := by decide +kernel
theorem dX6_fails_160 : decode cX6_fails 160 = .ok (.iconst (-1), 1) := by decide +kernel
theorem dX6_fails_161 : decode cX6_fails 161 = .ok (.if_icmp .eq 61, 3) := by decide +kernel
theorem dX6_fails_164 : decode cX6_fails 164 = .ok (.aload_n 0, 1) := by decide +kernel
theorem dX6_fails_165 : decode cX6_fails 165 = .ok (.dup, 1) := by decide +kernel
theorem dX6_fails_166 : decode cX6_fails 166 = .ok (.getfield 89, 3) := by decide +kernel
theorem dX6_fails_169 : decode cX6_fails 169 = .ok (.iconst 1, 1) := by decide +kernel
theorem dX6_fails_170 : decode cX6_fails 170 = .ok (.isub, 1) := by decide +kernel
theorem dX6_fails_171 : decode cX6_fails 171 = .ok (.putfield 89, 3) := by decide +kernel
theorem dX6_fails_174 : decode cX6_fails 174 = .ok (.aload_n 0, 1) := by decide +kernel
theorem dX6_fails_175 : decode cX6_fails 175 = .ok (.getfield 19, 3) := by decide +kernel
theorem dX6_fails_178 : decode cX6_fails 178 = .ok (.iload 6, 2) := by decide +kernel
theorem dX6_fails_180 : decode cX6_fails 180 = .ok (.aload_n 0, 1) := by decide +kernel
theorem dX6_fails_181 : decode cX6_fails 181 = .ok (.getfield 19, 3) := by decide +kernel
theorem dX6_fails_184 : decode cX6_fails 184 = .ok (.aload_n 0, 1) := by decide +kernel
theorem dX6_fails_185 : decode cX6_fails 185 = .ok (.getfield 89, 3) := by decide +kernel
theorem dX6_fails_188 : decode cX6_fails 188 = .ok (.iaload, 1) := by decide +kernel
theorem dX6_fails_189 : decode cX6_fails 189 = .ok (.iastore, 1) := by decide +kernel
theorem dX6_fails_190 : decode cX6_fails 190 = .ok (.aload_n 0, 1) := by decide +kernel
theorem dX6_fails_191 : decode cX6_fails 191 = .ok (.getfield 22, 3) := by decide +kernel
theorem dX6_fails_194 : decode cX6_fails 194 = .ok (.iload 6, 2) := by decide +kernel
theorem dX6_fails_196 : decode cX6_fails 196 = .ok (.aload_n 0, 1) := by decide +kernel
theorem dX6_fails_197 : decode cX6_fails 197 = .ok (.getfield 22, 3) := by decide +kernel
theorem dX6_fails_200 : decode cX6_fails 200 = .ok (.aload_n 0, 1) := by decide +kernel
theorem dX6_fails_201 : decode cX6_fails 201 = .ok (.getfield 89, 3) := by decide +kernel
theorem dX6_fails_204 : decode cX6_fails 204 = .ok (.iaload, 1) := by decide +kernel
theorem dX6_fails_205 : decode cX6_fails 205 = .ok (.iastore, 1) := by decide +kernel
theorem dX6_fails_206 : decode cX6_fails 206 = .ok (.aload_n 0, 1) := by decide +kernel
theorem dX6_fails_207 : decode cX6_fails 207 = .ok (.getfield 25, 3) := by decide +kernel
theorem dX6_fails_210 : decode cX6_fails 210 = .ok (.iload 6, 2) := by decide +kernel
theorem dX6_fails_212 : decode cX6_fails 212 = .ok (.aload_n 0, 1) := by decide +kernel
theorem dX6_fails_213 : decode cX6_fails 213 = .ok (.getfield 25, 3) := by decide +kernel
theorem dX6_fails_216 : decode cX6_fails 216 = .ok (.aload_n 0, 1) := by decide +kernel
theorem dX6_fails_217 : decode cX6_fails 217 = .ok (.getfield 89, 3) := by decide +kernel
theorem dX6_fails_220 : decode cX6_fails 220 = .ok (.iaload, 1) := by decide +kernel
theorem dX6_fails_221 : decode cX6_fails 221 = .ok (.iastore, 1) := by decide +kernel
theorem dX6_fails_222 : decode cX6_fails 222 = .ok (.iload 6, 2) := by decide +kernel
theorem dX6_fails_224 : decode cX6_fails 224 = .ok (.iconst (-1), 1) := by decide +kernel
theorem dX6_fails_225 : decode cX6_fails 225 = .ok (.if_icmp .eq 7, 3) := by decide +kernel
theorem dX6_fails_228 : decode cX6_fails 228 = .ok (.iconst 1, 1) := by decide +kernel
theorem dX6_fails_229 : decode cX6_fails 229 = .ok (.goto 4, 3) := by decide +kernel
theorem dX6_fails_232 : decode cX6_fails 232 = .ok (.iconst 0, 1) := by decide +kernel
theorem dX6_fails_233 : decode cX6_fails 233 = .ok (.ireturn, 1) := by decide +kernel
set_option maxRecDepth 20000 in
theorem ggX6_stops_X6_isIn : GoodIn wsX6_stops wsX6_isIn := goodIn_r _ [6] (by decide +kernel) (by decide +kernel)
set_option maxRecDepth 20000 in
theorem gX6_stops_X6_isIn : GoodIn wsX6_stops (va_wsS RX6 85 yX6_isIn wsX6_isIn) := goodIn_app (goodIn_of _ (by decide +kernel)) ggX6_stops_X6_isIn
theorem dX6_stops_0 : decode cX6_stops 0 = .ok (.aload_n 0, 1) := by decide +kernel
theorem dX6_stops_1 : decode cX6_stops 1 = .ok (.iload_n 1, 1) := by decide +kernel
theorem dX6_stops_2 : decode cX6_stops 2 = .ok (.iconst (-1), 1) := by decide +kernel
theorem dX6_stops_3 : decode cX6_stops 3 = .ok (.if_icmp .eq 14, 3) := by decide +kernel
theorem dX6_stops_6 : decode cX6_stops 6 = .ok (.iload_n 1, 1) := by decide +kernel
theorem dX6_stops_7 : decode cX6_stops 7 = .ok (.iconst 0, 1) := by decide +kernel
theorem dX6_stops_8 : decode cX6_stops 8 = .ok (.sipush 999, 3) := by decide +kernel
theorem dX6_stops_11 : decode cX6_stops 11 = .ok (.invokestatic 85, 3) := by decide +kernel
theorem dX6_stops_14 : decode cX6_stops 14 = .ok (.ifCond .eq 7, 3) := by decide +kernel
theorem dX6_stops_17 : decode cX6_stops 17 = .ok (.iconst 0, 1) := by decide +kernel
theorem dX6_stops_18 : decode cX6_stops 18 = .ok (.goto 4, 3) := by decide +kernel
theorem dX6_stops_21 : decode cX6_stops 21 = .ok (.iconst 1, 1) := by decide +kernel
theorem dX6_stops_22 : decode cX6_stops 22 = .ok (.putfield 72, 3) := by decide +kernel
theorem dX6_stops_25 : decode cX6_stops 25 = .ok (.aload_n 0, 1) := by decide +kernel
theorem dX6_stops_26 : decode cX6_stops 26 = .ok (.getfield 72, 3) := by decide +kernel
theorem dX6_stops_29 : decode cX6_stops 29 = .ok (.ifCond .le 5, 3) := by decide +kernel
theorem dX6_stops_32 : decode cX6_stops 32 = .ok (.iconst 0, 1) := by decide +kernel
theorem dX6_stops_33 : decode cX6_stops 33 = .ok (.ireturn, 1) := by decide +kernel
theorem dX6_stops_34 : decode cX6_stops 34 = .ok (.aload_n 0, 1) := by decide +kernel
theorem dX6_stops_35 : decode cX6_stops 35 = .ok (.getfield 28, 3) := by decide +kernel
theorem dX6_stops_38 : decode cX6_stops 38 = .ok (.istore_n 2, 1) := by decide +kernel
theorem dX6_stops_39 : decode cX6_stops 39 = .ok (.aload_n 0, 1) := by decide +kernel
theorem dX6_stops_40 : decode cX6_stops 40 = .ok (.iload_n 1, 1) := by decide +kernel
theorem dX6_stops_41 : decode cX6_stops 41 = .ok (.putfield 28, 3) := by decide +kernel
theorem dX6_stops_44 : decode cX6_stops 44 = .ok (.iload_n 2, 1) := by decide +kernel
theorem dX6_stops_45 : decode cX6_stops 45 = .ok (.ireturn, 1) := by decide +kernel
theorem dX6_paint_0 : decode cX6_paint 0 = .ok (.iconst 0, 1) := by decide +kernel
theorem dX6_paint_1 : decode cX6_paint 1 = .ok (.istore_n 1, 1) := by decide +kernel
theorem dX6_paint_2 : decode cX6_paint 2 = .ok (.iload_n 1, 1) := by decide +kernel
theorem dX6_paint_3 : decode cX6_paint 3 = .ok (.aload_n 0, 1) := by decide +kernel
theorem dX6_paint_4 : decode cX6_paint 4 = .ok (.getfield 69, 3) := by decide +kernel
theorem dX6_paint_7 : decode cX6_paint 7 = .ok (.if_icmp .ge 92, 3) := by decide +kernel
theorem dX6_paint_10 : decode cX6_paint 10 = .ok (.iconst 0, 1) := by decide +kernel
theorem dX6_paint_11 : decode cX6_paint 11 = .ok (.istore_n 2, 1) := by decide +kernel
theorem dX6_paint_12 : decode cX6_paint 12 = .ok (.iconst 0, 1) := by decide +kernel
theorem dX6_paint_13 : decode cX6_paint 13 = .ok (.istore_n 3, 1) := by decide +kernel
theorem dX6_paint_14 : decode cX6_paint 14 = .ok (.iload_n 3, 1) := by decide +kernel
theorem dX6_paint_15 : decode cX6_paint 15 = .ok (.ifCond .ne 71, 3) := by decide +kernel
theorem dX6_paint_18 : decode cX6_paint 18 = .ok (.iconst 1, 1) := by decide +kernel
theorem dX6_paint_19 : decode cX6_paint 19 = .ok (.istore_n 3, 1) := by decide +kernel
theorem dX6_paint_20 : decode cX6_paint 20 = .ok (.iconst 0, 1) := by decide +kernel
theorem dX6_paint_21 : decode cX6_paint 21 = .ok (.istore 4, 2) := by decide +kernel
theorem dX6_paint_23 : decode cX6_paint 23 = .ok (.iload 4, 2) := by decide +kernel
theorem dX6_paint_25 : decode cX6_paint 25 = .ok (.iload_n 1, 1) := by decide +kernel
theorem dX6_paint_26 : decode cX6_paint 26 = .ok (.if_icmp .ge 45, 3) := by decide +kernel
theorem dX6_paint_29 : decode cX6_paint 29 = .ok (.iload_n 3, 1) := by decide +kernel
theorem dX6_paint_30 : decode cX6_paint 30 = .ok (.ifCond .eq 33, 3) := by decide +kernel
theorem dX6_paint_33 : decode cX6_paint 33 = .ok (.aload_n 0, 1) := by decide +kernel
theorem dX6_paint_34 : decode cX6_paint 34 = .ok (.getfield 7, 3) := by decide +kernel
theorem dX6_paint_37 : decode cX6_paint 37 = .ok (.bipush 24, 2) := by decide +kernel
theorem dX6_paint_39 : decode cX6_paint 39 = .ok (.iload_n 1, 1) := by decide +kernel
theorem dX6_paint_40 : decode cX6_paint 40 = .ok (.imul, 1) := by decide +kernel
theorem dX6_paint_41 : decode cX6_paint 41 = .ok (.iload 4, 2) := by decide +kernel
theorem dX6_paint_43 : decode cX6_paint 43 = .ok (.iadd, 1) := by decide +kernel
theorem dX6_paint_44 : decode cX6_paint 44 = .ok (.iaload, 1) := by decide +kernel
theorem dX6_paint_45 : decode cX6_paint 45 = .ok (.ifCond .eq 14, 3) := by decide +kernel
theorem dX6_paint_48 : decode cX6_paint 48 = .ok (.aload_n 0, 1) := by decide +kernel
theorem dX6_paint_49 : decode cX6_paint 49 = .ok (.getfield 16, 3) := by decide +kernel
theorem dX6_paint_52 : decode cX6_paint 52 = .ok (.iload 4, 2) := by decide +kernel
theorem dX6_paint_54 : decode cX6_paint 54 = .ok (.iaload, 1) := by decide +kernel
theorem dX6_paint_55 : decode cX6_paint 55 = .ok (.iload_n 2, 1) := by decide +kernel
theorem dX6_paint_56 : decode cX6_paint 56 = .ok (.if_icmp .eq 7, 3) := by decide +kernel
theorem dX6_paint_59 : decode cX6_paint 59 = .ok (.iconst 1, 1) := by decide +kernel
theorem dX6_paint_60 : decode cX6_paint 60 = .ok (.goto 4, 3) := by decide +kernel
theorem dX6_paint_63 : decode cX6_paint 63 = .ok (.iconst 0, 1) := by decide +kernel
theorem dX6_paint_64 : decode cX6_paint 64 = .ok (.istore_n 3, 1) := by decide +kernel
theorem dX6_paint_65 : decode cX6_paint 65 = .ok (.iinc 4 1, 3) := by decide +kernel
theorem dX6_paint_68 : decode cX6_paint 68 = .ok (.goto (-45), 3) := by decide +kernel
theorem dX6_paint_71 : decode cX6_paint 71 = .ok (.iload_n 3, 1) := by decide +kernel
theorem dX6_paint_72 : decode cX6_paint 72 = .ok (.ifCond .eq 7, 3) := by decide +kernel
theorem dX6_paint_75 : decode cX6_paint 75 = .ok (.iload_n 2, 1) := by decide +kernel
theorem dX6_paint_76 : decode cX6_paint 76 = .ok (.goto 6, 3) := by decide +kernel
theorem dX6_paint_79 : decode cX6_paint 79 = .ok (.iload_n 2, 1) := by decide +kernel
theorem dX6_paint_80 : decode cX6_paint 80 = .ok (.iconst 1, 1) := by decide +kernel
theorem dX6_paint_81 : decode cX6_paint 81 = .ok (.iadd, 1) := by decide +kernel
theorem dX6_paint_82 : decode cX6_paint 82 = .ok (.istore_n 2, 1) := by decide +kernel
theorem dX6_paint_83 : decode cX6_paint 83 = .ok (.goto (-69), 3) := by decide +kernel
theorem dX6_paint_86 : decode cX6_paint 86 = .ok (.aload_n 0, 1) := by decide +kernel
theorem dX6_paint_87 : decode cX6_paint 87 = .ok (.getfield 16, 3) := by decide +kernel
