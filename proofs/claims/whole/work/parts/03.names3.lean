theorem dX6_paint_90 : decode cX6_paint 90 = .ok (.iload_n 1, 1) := by decide +kernel
theorem dX6_paint_91 : decode cX6_paint 91 = .ok (.iload_n 2, 1) := by decide +kernel
theorem dX6_paint_92 : decode cX6_paint 92 = .ok (.iastore, 1) := by decide +kernel
theorem dX6_paint_93 : decode cX6_paint 93 = .ok (.iinc 1 1, 3) := by decide +kernel
theorem dX6_paint_96 : decode cX6_paint 96 = .ok (.goto (-94), 3) := by decide +kernel
theorem dX6_paint_99 : decode cX6_paint 99 = .ok (.return_, 1) := by decide +kernel
set_option maxRecDepth 20000 in
theorem ggX6_colours_X6_paint : GoodIn wsX6_colours wsX6_paint := goodIn_r _ [8, 2, 9, 3, 10, 11, 12, 13, 14, 15, 16, 17, 18, 19, 20, 21, 22, 23, 24, 25, 26, 27, 28, 29, 30, 31, 32, 33, 34, 35, 36] (by decide +kernel) (by decide +kernel)
set_option maxRecDepth 20000 in
theorem gX6_colours_X6_paint : GoodIn wsX6_colours (wsV RX6 95 RX6 yX6_paint wsX6_paint) := goodIn_app (goodIn_of _ (by decide +kernel)) ggX6_colours_X6_paint
theorem dX6_colours_0 : decode cX6_colours 0 = .ok (.aload_n 0, 1) := by decide +kernel
theorem dX6_colours_1 : decode cX6_colours 1 = .ok (.iconst 0, 1) := by decide +kernel
theorem dX6_colours_2 : decode cX6_colours 2 = .ok (.putfield 72, 3) := by decide +kernel
theorem dX6_colours_5 : decode cX6_colours 5 = .ok (.aload_n 0, 1) := by decide +kernel
theorem dX6_colours_6 : decode cX6_colours 6 = .ok (.invokevirtual 95, 3) := by decide +kernel
theorem dX6_colours_9 : decode cX6_colours 9 = .ok (.iconst 0, 1) := by decide +kernel
theorem dX6_colours_10 : decode cX6_colours 10 = .ok (.istore_n 1, 1) := by decide +kernel
theorem dX6_colours_11 : decode cX6_colours 11 = .ok (.iconst 0, 1) := by decide +kernel
theorem dX6_colours_12 : decode cX6_colours 12 = .ok (.istore_n 2, 1) := by decide +kernel
theorem dX6_colours_13 : decode cX6_colours 13 = .ok (.iload_n 2, 1) := by decide +kernel
theorem dX6_colours_14 : decode cX6_colours 14 = .ok (.aload_n 0, 1) := by decide +kernel
theorem dX6_colours_15 : decode cX6_colours 15 = .ok (.getfield 69, 3) := by decide +kernel
theorem dX6_colours_18 : decode cX6_colours 18 = .ok (.if_icmp .ge 30, 3) := by decide +kernel
theorem dX6_colours_21 : decode cX6_colours 21 = .ok (.aload_n 0, 1) := by decide +kernel
theorem dX6_colours_22 : decode cX6_colours 22 = .ok (.getfield 16, 3) := by decide +kernel
theorem dX6_colours_25 : decode cX6_colours 25 = .ok (.iload_n 2, 1) := by decide +kernel
theorem dX6_colours_26 : decode cX6_colours 26 = .ok (.iaload, 1) := by decide +kernel
theorem dX6_colours_27 : decode cX6_colours 27 = .ok (.iload_n 1, 1) := by decide +kernel
theorem dX6_colours_28 : decode cX6_colours 28 = .ok (.if_icmp .le 12, 3) := by decide +kernel
theorem dX6_colours_31 : decode cX6_colours 31 = .ok (.aload_n 0, 1) := by decide +kernel
theorem dX6_colours_32 : decode cX6_colours 32 = .ok (.getfield 16, 3) := by decide +kernel
theorem dX6_colours_35 : decode cX6_colours 35 = .ok (.iload_n 2, 1) := by decide +kernel
theorem dX6_colours_36 : decode cX6_colours 36 = .ok (.iaload, 1) := by decide +kernel
theorem dX6_colours_37 : decode cX6_colours 37 = .ok (.goto 4, 3) := by decide +kernel
theorem dX6_colours_40 : decode cX6_colours 40 = .ok (.iload_n 1, 1) := by decide +kernel
theorem dX6_colours_41 : decode cX6_colours 41 = .ok (.istore_n 1, 1) := by decide +kernel
theorem dX6_colours_42 : decode cX6_colours 42 = .ok (.iinc 2 1, 3) := by decide +kernel
theorem dX6_colours_45 : decode cX6_colours 45 = .ok (.goto (-32), 3) := by decide +kernel
theorem dX6_colours_48 : decode cX6_colours 48 = .ok (.iload_n 1, 1) := by decide +kernel
theorem dX6_colours_49 : decode cX6_colours 49 = .ok (.iconst 1, 1) := by decide +kernel
theorem dX6_colours_50 : decode cX6_colours 50 = .ok (.iadd, 1) := by decide +kernel
theorem dX6_colours_51 : decode cX6_colours 51 = .ok (.ireturn, 1) := by decide +kernel
set_option maxRecDepth 20000 in
theorem ggX6_colour_X6_noZone : GoodIn wsX6_colour wsX6_noZone := goodIn_r _ [7, 8, 14, 15, 16, 17, 18, 19, 20, 21, 22, 23, 24, 25, 26, 27, 28, 29, 30, 31, 32, 33, 34, 35, 36, 37, 38, 39, 40] (by decide +kernel) (by decide +kernel)
set_option maxRecDepth 20000 in
theorem gX6_colour_X6_noZone : GoodIn wsX6_colour (wsV RX6 81 RX6 yX6_noZone wsX6_noZone) := goodIn_app (goodIn_of _ (by decide +kernel)) ggX6_colour_X6_noZone
set_option maxRecDepth 20000 in
theorem ggX6_colour_X6_paint : GoodIn wsX6_colour wsX6_paint := goodIn_r _ [12, 8, 13, 2, 14, 15, 16, 17, 18, 19, 20, 21, 22, 23, 24, 25, 26, 27, 28, 29, 30, 31, 32, 33, 34, 35, 36, 37, 38, 39, 40] (by decide +kernel) (by decide +kernel)
set_option maxRecDepth 20000 in
theorem gX6_colour_X6_paint : GoodIn wsX6_colour (wsV RX6 95 RX6 yX6_paint wsX6_paint) := goodIn_app (goodIn_of _ (by decide +kernel)) ggX6_colour_X6_paint
theorem dX6_colour_0 : decode cX6_colour 0 = .ok (.aload_n 0, 1) := by decide +kernel
theorem dX6_colour_1 : decode cX6_colour 1 = .ok (.aload_n 0, 1) := by decide +kernel
theorem dX6_colour_2 : decode cX6_colour 2 = .ok (.iload_n 1, 1) := by decide +kernel
theorem dX6_colour_3 : decode cX6_colour 3 = .ok (.invokevirtual 81, 3) := by decide +kernel
theorem dX6_colour_6 : decode cX6_colour 6 = .ok (.ifCond .eq 7, 3) := by decide +kernel
theorem dX6_colour_9 : decode cX6_colour 9 = .ok (.iconst 1, 1) := by decide +kernel
theorem dX6_colour_10 : decode cX6_colour 10 = .ok (.goto 4, 3) := by decide +kernel
theorem dX6_colour_13 : decode cX6_colour 13 = .ok (.iconst 0, 1) := by decide +kernel
theorem dX6_colour_14 : decode cX6_colour 14 = .ok (.putfield 72, 3) := by decide +kernel
theorem dX6_colour_17 : decode cX6_colour 17 = .ok (.aload_n 0, 1) := by decide +kernel
theorem dX6_colour_18 : decode cX6_colour 18 = .ok (.invokevirtual 95, 3) := by decide +kernel
theorem dX6_colour_21 : decode cX6_colour 21 = .ok (.aload_n 0, 1) := by decide +kernel
theorem dX6_colour_22 : decode cX6_colour 22 = .ok (.getfield 72, 3) := by decide +kernel
theorem dX6_colour_25 : decode cX6_colour 25 = .ok (.ifCond .le 7, 3) := by decide +kernel
theorem dX6_colour_28 : decode cX6_colour 28 = .ok (.iconst 0, 1) := by decide +kernel
theorem dX6_colour_29 : decode cX6_colour 29 = .ok (.goto 9, 3) := by decide +kernel
theorem dX6_colour_32 : decode cX6_colour 32 = .ok (.aload_n 0, 1) := by decide +kernel
theorem dX6_colour_33 : decode cX6_colour 33 = .ok (.getfield 16, 3) := by decide +kernel
theorem dX6_colour_36 : decode cX6_colour 36 = .ok (.iload_n 1, 1) := by decide +kernel
theorem dX6_colour_37 : decode cX6_colour 37 = .ok (.iaload, 1) := by decide +kernel
theorem dX6_colour_38 : decode cX6_colour 38 = .ok (.ireturn, 1) := by decide +kernel
set_option maxRecDepth 20000 in
theorem ggX6_change_X6_within : GoodIn wsX6_change wsX6_within := goodIn_r _ [8, 9, 10, 11, 12] (by decide +kernel) (by decide +kernel)
set_option maxRecDepth 20000 in
theorem gX6_change_X6_within : GoodIn wsX6_change (va_wsS RX6 100 yX6_within wsX6_within) := goodIn_app (goodIn_of _ (by decide +kernel)) ggX6_change_X6_within
theorem dX6_change_0 : decode cX6_change 0 = .ok (.lconst 0, 1) := by decide +kernel
theorem dX6_change_1 : decode cX6_change 1 = .ok (.lstore_n 2, 1) := by decide +kernel
theorem dX6_change_2 : decode cX6_change 2 = .ok (.iconst 0, 1) := by decide +kernel
theorem dX6_change_3 : decode cX6_change 3 = .ok (.istore 4, 2) := by decide +kernel
theorem dX6_change_5 : decode cX6_change 5 = .ok (.iload 4, 2) := by decide +kernel
theorem dX6_change_7 : decode cX6_change 7 = .ok (.aload_n 0, 1) := by decide +kernel
theorem dX6_change_8 : decode cX6_change 8 = .ok (.getfield 69, 3) := by decide +kernel
theorem dX6_change_11 : decode cX6_change 11 = .ok (.if_icmp .ge 41, 3) := by decide +kernel
theorem dX6_change_14 : decode cX6_change 14 = .ok (.lload_n 2, 1) := by decide +kernel
theorem dX6_change_15 : decode cX6_change 15 = .ok (.aload_n 0, 1) := by decide +kernel
theorem dX6_change_16 : decode cX6_change 16 = .ok (.getfield 7, 3) := by decide +kernel
theorem dX6_change_19 : decode cX6_change 19 = .ok (.bipush 24, 2) := by decide +kernel
theorem dX6_change_21 : decode cX6_change 21 = .ok (.iload_n 1, 1) := by decide +kernel
theorem dX6_change_22 : decode cX6_change 22 = .ok (.imul, 1) := by decide +kernel
theorem dX6_change_23 : decode cX6_change 23 = .ok (.iload 4, 2) := by decide +kernel
theorem dX6_change_25 : decode cX6_change 25 = .ok (.iadd, 1) := by decide +kernel
theorem dX6_change_26 : decode cX6_change 26 = .ok (.iaload, 1) := by decide +kernel
theorem dX6_change_27 : decode cX6_change 27 = .ok (.i2l, 1) := by decide +kernel
theorem dX6_change_28 : decode cX6_change 28 = .ok (.aload_n 0, 1) := by decide +kernel
theorem dX6_change_29 : decode cX6_change 29 = .ok (.getfield 13, 3) := by decide +kernel
theorem dX6_change_32 : decode cX6_change 32 = .ok (.iload 4, 2) := by decide +kernel
theorem dX6_change_34 : decode cX6_change 34 = .ok (.iaload, 1) := by decide +kernel
theorem dX6_change_35 : decode cX6_change 35 = .ok (.aload_n 0, 1) := by decide +kernel
theorem dX6_change_36 : decode cX6_change 36 = .ok (.getfield 13, 3) := by decide +kernel
theorem dX6_change_39 : decode cX6_change 39 = .ok (.iload_n 1, 1) := by decide +kernel
theorem dX6_change_40 : decode cX6_change 40 = .ok (.iaload, 1) := by decide +kernel
theorem dX6_change_41 : decode cX6_change 41 = .ok (.isub, 1) := by decide +kernel
theorem dX6_change_42 : decode cX6_change 42 = .ok (.i2l, 1) := by decide +kernel
theorem dX6_change_43 : decode cX6_change 43 = .ok (.lmul, 1) := by decide +kernel
theorem dX6_change_44 : decode cX6_change 44 = .ok (.ladd, 1) := by decide +kernel
theorem dX6_change_45 : decode cX6_change 45 = .ok (.lstore_n 2, 1) := by decide +kernel
theorem dX6_change_46 : decode cX6_change 46 = .ok (.iinc 4 1, 3) := by decide +kernel
theorem dX6_change_49 : decode cX6_change 49 = .ok (.goto (-44), 3) := by decide +kernel
theorem dX6_change_52 : decode cX6_change 52 = .ok (.aload_n 0, 1) := by decide +kernel
theorem dX6_change_53 : decode cX6_change 53 = .ok (.getfield 13, 3) := by decide +kernel
theorem dX6_change_56 : decode cX6_change 56 = .ok (.iload_n 1, 1) := by decide +kernel
theorem dX6_change_57 : decode cX6_change 57 = .ok (.aload_n 0, 1) := by decide +kernel
theorem dX6_change_58 : decode cX6_change 58 = .ok (.getfield 13, 3) := by decide +kernel
theorem dX6_change_61 : decode cX6_change 61 = .ok (.iload_n 1, 1) := by decide +kernel
theorem dX6_change_62 : decode cX6_change 62 = .ok (.iaload, 1) := by decide +kernel
theorem dX6_change_63 : decode cX6_change 63 = .ok (.i2l, 1) := by decide +kernel
theorem dX6_change_64 : decode cX6_change 64 = .ok (.lload_n 2, 1) := by decide +kernel
theorem dX6_change_65 : decode cX6_change 65 = .ok (.ldc2_w 98, 3) := by decide +kernel
theorem dX6_change_68 : decode cX6_change 68 = .ok (.ldiv, 1) := by decide +kernel
theorem dX6_change_69 : decode cX6_change 69 = .ok (.ladd, 1) := by decide +kernel
theorem dX6_change_70 : decode cX6_change 70 = .ok (.invokestatic 100, 3) := by decide +kernel
theorem dX6_change_73 : decode cX6_change 73 = .ok (.iastore, 1) := by decide +kernel
theorem dX6_change_74 : decode cX6_change 74 = .ok (.return_, 1) := by decide +kernel
theorem dX6_write_0 : decode cX6_write 0 = .ok (.aload_n 0, 1) := by decide +kernel
theorem dX6_write_1 : decode cX6_write 1 = .ok (.getfield 104, 3) := by decide +kernel
theorem dX6_write_4 : decode cX6_write 4 = .ok (.sipush 2000, 3) := by decide +kernel
theorem dX6_write_7 : decode cX6_write 7 = .ok (.if_icmp .ge 76, 3) := by decide +kernel
theorem dX6_write_10 : decode cX6_write 10 = .ok (.aload_n 0, 1) := by decide +kernel
theorem dX6_write_11 : decode cX6_write 11 = .ok (.getfield 39, 3) := by decide +kernel
theorem dX6_write_14 : decode cX6_write 14 = .ok (.iconst 4, 1) := by decide +kernel
theorem dX6_write_15 : decode cX6_write 15 = .ok (.aload_n 0, 1) := by decide +kernel
theorem dX6_write_16 : decode cX6_write 16 = .ok (.getfield 104, 3) := by decide +kernel
theorem dX6_write_19 : decode cX6_write 19 = .ok (.imul, 1) := by decide +kernel
theorem dX6_write_20 : decode cX6_write 20 = .ok (.iload_n 1, 1) := by decide +kernel
theorem dX6_write_21 : decode cX6_write 21 = .ok (.iastore, 1) := by decide +kernel
theorem dX6_write_22 : decode cX6_write 22 = .ok (.aload_n 0, 1) := by decide +kernel
theorem dX6_write_23 : decode cX6_write 23 = .ok (.getfield 39, 3) := by decide +kernel
theorem dX6_write_26 : decode cX6_write 26 = .ok (.iconst 4, 1) := by decide +kernel
theorem dX6_write_27 : decode cX6_write 27 = .ok (.aload_n 0, 1) := by decide +kernel
theorem dX6_write_28 : decode cX6_write 28 = .ok (.getfield 104, 3) := by decide +kernel
theorem dX6_write_31 : decode cX6_write 31 = .ok (.imul, 1) := by decide +kernel
theorem dX6_write_32 : decode cX6_write 32 = .ok (.iconst 1, 1) := by decide +kernel
theorem dX6_write_33 : decode cX6_write 33 = .ok (.iadd, 1) := by decide +kernel
theorem dX6_write_34 : decode cX6_write 34 = .ok (.iload_n 2, 1) := by decide +kernel
theorem dX6_write_35 : decode cX6_write 35 = .ok (.iastore, 1) := by decide +kernel
theorem dX6_write_36 : decode cX6_write 36 = .ok (.aload_n 0, 1) := by decide +kernel
theorem dX6_write_37 : decode cX6_write 37 = .ok (.getfield 39, 3) := by decide +kernel
theorem dX6_write_40 : decode cX6_write 40 = .ok (.iconst 4, 1) := by decide +kernel
theorem dX6_write_41 : decode cX6_write 41 = .ok (.aload_n 0, 1) := by decide +kernel
theorem dX6_write_42 : decode cX6_write 42 = .ok (.getfield 104, 3) := by decide +kernel
theorem dX6_write_45 : decode cX6_write 45 = .ok (.imul, 1) := by decide +kernel
theorem dX6_write_46 : decode cX6_write 46 = .ok (.iconst 2, 1) := by decide +kernel
theorem dX6_write_47 : decode cX6_write 47 = .ok (.iadd, 1) := by decide +kernel
theorem dX6_write_48 : decode cX6_write 48 = .ok (.iload_n 3, 1) := by decide +kernel
theorem dX6_write_49 : decode cX6_write 49 = .ok (.iastore, 1) := by decide +kernel
theorem dX6_write_50 : decode cX6_write 50 = .ok (.aload_n 0, 1) := by decide +kernel
theorem dX6_write_51 : decode cX6_write 51 = .ok (.getfield 39, 3) := by decide +kernel
theorem dX6_write_54 : decode cX6_write 54 = .ok (.iconst 4, 1) := by decide +kernel
theorem dX6_write_55 : decode cX6_write 55 = .ok (.aload_n 0, 1) := by decide +kernel
theorem dX6_write_56 : decode cX6_write 56 = .ok (.getfield 104, 3) := by decide +kernel
theorem dX6_write_59 : decode cX6_write 59 = .ok (.imul, 1) := by decide +kernel
theorem dX6_write_60 : decode cX6_write 60 = .ok (.iconst 3, 1) := by decide +kernel
theorem dX6_write_61 : decode cX6_write 61 = .ok (.iadd, 1) := by decide +kernel
theorem dX6_write_62 : decode cX6_write 62 = .ok (.iload 4, 2) := by decide +kernel
theorem dX6_write_64 : decode cX6_write 64 = .ok (.ifCond .eq 7, 3) := by decide +kernel
theorem dX6_write_67 : decode cX6_write 67 = .ok (.iconst 1, 1) := by decide +kernel
theorem dX6_write_68 : decode cX6_write 68 = .ok (.goto 4, 3) := by decide +kernel
theorem dX6_write_71 : decode cX6_write 71 = .ok (.iconst 0, 1) := by decide +kernel
theorem dX6_write_72 : decode cX6_write 72 = .ok (.iastore, 1) := by decide +kernel
theorem dX6_write_73 : decode cX6_write 73 = .ok (.aload_n 0, 1) := by decide +kernel
theorem dX6_write_74 : decode cX6_write 74 = .ok (.dup, 1) := by decide +kernel
theorem dX6_write_75 : decode cX6_write 75 = .ok (.getfield 104, 3) := by decide +kernel
theorem dX6_write_78 : decode cX6_write 78 = .ok (.iconst 1, 1) := by decide +kernel
theorem dX6_write_79 : decode cX6_write 79 = .ok (.iadd, 1) := by decide +kernel
theorem dX6_write_80 : decode cX6_write 80 = .ok (.putfield 104, 3) := by decide +kernel
theorem dX6_write_83 : decode cX6_write 83 = .ok (.return_, 1) := by decide +kernel
theorem dX6_next_0 : decode cX6_next 0 = .ok (.iconst (-1), 1) := by decide +kernel
theorem dX6_next_1 : decode cX6_next 1 = .ok (.istore_n 2, 1) := by decide +kernel
theorem dX6_next_2 : decode cX6_next 2 = .ok (.aload_n 0, 1) := by decide +kernel
theorem dX6_next_3 : decode cX6_next 3 = .ok (.getfield 69, 3) := by decide +kernel
theorem dX6_next_6 : decode cX6_next 6 = .ok (.iconst 1, 1) := by decide +kernel
theorem dX6_next_7 : decode cX6_next 7 = .ok (.isub, 1) := by decide +kernel
theorem dX6_next_8 : decode cX6_next 8 = .ok (.istore_n 3, 1) := by decide +kernel
theorem dX6_next_9 : decode cX6_next 9 = .ok (.iload_n 3, 1) := by decide +kernel
theorem dX6_next_10 : decode cX6_next 10 = .ok (.ifCond .lt 34, 3) := by decide +kernel
theorem dX6_next_13 : decode cX6_next 13 = .ok (.aload_n 0, 1) := by decide +kernel
theorem dX6_next_14 : decode cX6_next 14 = .ok (.getfield 16, 3) := by decide +kernel
theorem dX6_next_17 : decode cX6_next 17 = .ok (.iload_n 3, 1) := by decide +kernel
theorem dX6_next_18 : decode cX6_next 18 = .ok (.iaload, 1) := by decide +kernel
theorem dX6_next_19 : decode cX6_next 19 = .ok (.iload_n 1, 1) := by decide +kernel
theorem dX6_next_20 : decode cX6_next 20 = .ok (.if_icmp .ne 16, 3) := by decide +kernel
theorem dX6_next_23 : decode cX6_next 23 = .ok (.aload_n 0, 1) := by decide +kernel
theorem dX6_next_24 : decode cX6_next 24 = .ok (.getfield 45, 3) := by decide +kernel
theorem dX6_next_27 : decode cX6_next 27 = .ok (.iload_n 3, 1) := by decide +kernel
theorem dX6_next_28 : decode cX6_next 28 = .ok (.baload, 1) := by decide +kernel
theorem dX6_next_29 : decode cX6_next 29 = .ok (.ifCond .ne 7, 3) := by decide +kernel
theorem dX6_next_32 : decode cX6_next 32 = .ok (.iload_n 3, 1) := by decide +kernel
theorem dX6_next_33 : decode cX6_next 33 = .ok (.goto 4, 3) := by decide +kernel
theorem dX6_next_36 : decode cX6_next 36 = .ok (.iload_n 2, 1) := by decide +kernel
theorem dX6_next_37 : decode cX6_next 37 = .ok (.istore_n 2, 1) := by decide +kernel
theorem dX6_next_38 : decode cX6_next 38 = .ok (.iinc 3 (-1), 3) := by decide +kernel
theorem dX6_next_41 : decode cX6_next 41 = .ok (.goto (-32), 3) := by decide +kernel
theorem dX6_next_44 : decode cX6_next 44 = .ok (.iload_n 2, 1) := by decide +kernel
theorem dX6_next_45 : decode cX6_next 45 = .ok (.ireturn, 1) := by decide +kernel
theorem dX6_worker_0 : decode cX6_worker 0 = .ok (.iconst 0, 1) := by decide +kernel
theorem dX6_worker_1 : decode cX6_worker 1 = .ok (.istore_n 1, 1) := by decide +kernel
theorem dX6_worker_2 : decode cX6_worker 2 = .ok (.iconst 0, 1) := by decide +kernel
theorem dX6_worker_3 : decode cX6_worker 3 = .ok (.istore_n 2, 1) := by decide +kernel
theorem dX6_worker_4 : decode cX6_worker 4 = .ok (.iload_n 2, 1) := by decide +kernel
theorem dX6_worker_5 : decode cX6_worker 5 = .ok (.aload_n 0, 1) := by decide +kernel
theorem dX6_worker_6 : decode cX6_worker 6 = .ok (.getfield 107, 3) := by decide +kernel
theorem dX6_worker_9 : decode cX6_worker 9 = .ok (.if_icmp .ge 26, 3) := by decide +kernel
theorem dX6_worker_12 : decode cX6_worker 12 = .ok (.aload_n 0, 1) := by decide +kernel
theorem dX6_worker_13 : decode cX6_worker 13 = .ok (.getfield 32, 3) := by decide +kernel
theorem dX6_worker_16 : decode cX6_worker 16 = .ok (.iload_n 2, 1) := by decide +kernel
theorem dX6_worker_17 : decode cX6_worker 17 = .ok (.baload, 1) := by decide +kernel
theorem dX6_worker_18 : decode cX6_worker 18 = .ok (.ifCond .eq 7, 3) := by decide +kernel
theorem dX6_worker_21 : decode cX6_worker 21 = .ok (.iload_n 1, 1) := by decide +kernel
theorem dX6_worker_22 : decode cX6_worker 22 = .ok (.goto 6, 3) := by decide +kernel
theorem dX6_worker_25 : decode cX6_worker 25 = .ok (.iload_n 1, 1) := by decide +kernel
theorem dX6_worker_26 : decode cX6_worker 26 = .ok (.iconst 1, 1) := by decide +kernel
theorem dX6_worker_27 : decode cX6_worker 27 = .ok (.iadd, 1) := by decide +kernel
theorem dX6_worker_28 : decode cX6_worker 28 = .ok (.istore_n 1, 1) := by decide +kernel
theorem dX6_worker_29 : decode cX6_worker 29 = .ok (.iinc 2 1, 3) := by decide +kernel
theorem dX6_worker_32 : decode cX6_worker 32 = .ok (.goto (-28), 3) := by decide +kernel
theorem dX6_worker_35 : decode cX6_worker 35 = .ok (.iload_n 1, 1) := by decide +kernel
theorem dX6_worker_36 : decode cX6_worker 36 = .ok (.ifCond .ne 5, 3) := by decide +kernel
theorem dX6_worker_39 : decode cX6_worker 39 = .ok (.iconst (-1), 1) := by decide +kernel
theorem dX6_worker_40 : decode cX6_worker 40 = .ok (.ireturn, 1) := by decide +kernel
theorem dX6_worker_41 : decode cX6_worker 41 = .ok (.aload_n 0, 1) := by decide +kernel
theorem dX6_worker_42 : decode cX6_worker 42 = .ok (.aload_n 0, 1) := by decide +kernel
theorem dX6_worker_43 : decode cX6_worker 43 = .ok (.getfield 110, 3) := by decide +kernel
theorem dX6_worker_46 : decode cX6_worker 46 = .ok (.ldc 113, 2) := by decide +kernel
theorem dX6_worker_48 : decode cX6_worker 48 = .ok (.imul, 1) := by decide +kernel
theorem dX6_worker_49 : decode cX6_worker 49 = .ok (.sipush 12345, 3) := by decide +kernel
theorem dX6_worker_52 : decode cX6_worker 52 = .ok (.iadd, 1) := by decide +kernel
theorem dX6_worker_53 : decode cX6_worker 53 = .ok (.putfield 110, 3) := by decide +kernel
theorem dX6_worker_56 : decode cX6_worker 56 = .ok (.aload_n 0, 1) := by decide +kernel
theorem dX6_worker_57 : decode cX6_worker 57 = .ok (.getfield 110, 3) := by decide +kernel
theorem dX6_worker_60 : decode cX6_worker 60 = .ok (.bipush 16, 2) := by decide +kernel
theorem dX6_worker_62 : decode cX6_worker 62 = .ok (.iushr, 1) := by decide +kernel
theorem dX6_worker_63 : decode cX6_worker 63 = .ok (.iload_n 1, 1) := by decide +kernel
theorem dX6_worker_64 : decode cX6_worker 64 = .ok (.irem, 1) := by decide +kernel
theorem dX6_worker_65 : decode cX6_worker 65 = .ok (.istore_n 2, 1) := by decide +kernel
theorem dX6_worker_66 : decode cX6_worker 66 = .ok (.iconst 0, 1) := by decide +kernel
theorem dX6_worker_67 : decode cX6_worker 67 = .ok (.istore_n 3, 1) := by decide +kernel
theorem dX6_worker_68 : decode cX6_worker 68 = .ok (.iload_n 3, 1) := by decide +kernel
theorem dX6_worker_69 : decode cX6_worker 69 = .ok (.aload_n 0, 1) := by decide +kernel
theorem dX6_worker_70 : decode cX6_worker 70 = .ok (.getfield 107, 3) := by decide +kernel
theorem dX6_worker_73 : decode cX6_worker 73 = .ok (.if_icmp .ge 27, 3) := by decide +kernel
theorem dX6_worker_76 : decode cX6_worker 76 = .ok (.aload_n 0, 1) := by decide +kernel
theorem dX6_worker_77 : decode cX6_worker 77 = .ok (.getfield 32, 3) := by decide +kernel
theorem dX6_worker_80 : decode cX6_worker 80 = .ok (.iload_n 3, 1) := by decide +kernel
theorem dX6_worker_81 : decode cX6_worker 81 = .ok (.baload, 1) := by decide +kernel
theorem dX6_worker_82 : decode cX6_worker 82 = .ok (.ifCond .ne 12, 3) := by decide +kernel
theorem dX6_worker_85 : decode cX6_worker 85 = .ok (.iload_n 2, 1) := by decide +kernel
theorem dX6_worker_86 : decode cX6_worker 86 = .ok (.ifCond .ne 5, 3) := by decide +kernel
theorem dX6_worker_89 : decode cX6_worker 89 = .ok (.iload_n 3, 1) := by decide +kernel
theorem dX6_worker_90 : decode cX6_worker 90 = .ok (.ireturn, 1) := by decide +kernel
theorem dX6_worker_91 : decode cX6_worker 91 = .ok (.iinc 2 (-1), 3) := by decide +kernel
theorem dX6_worker_94 : decode cX6_worker 94 = .ok (.iinc 3 1, 3) := by decide +kernel
theorem dX6_worker_97 : decode cX6_worker 97 = .ok (.goto (-29), 3) := by decide +kernel
theorem dX6_worker_100 : decode cX6_worker 100 = .ok (.iconst (-1), 1) := by decide +kernel
theorem dX6_worker_101 : decode cX6_worker 101 = .ok (.ireturn, 1) := by decide +kernel
set_option maxRecDepth 20000 in
theorem ggX6_hour_X6_next : GoodIn wsX6_hour wsX6_next := goodIn_r _ [11, 1, 12, 4, 47, 48, 49, 50, 51, 52, 53, 54, 55, 56, 57, 58, 59, 60, 61, 62, 63, 64, 65, 66, 67, 68, 69, 70, 71, 72, 73] (by decide +kernel) (by decide +kernel)
set_option maxRecDepth 20000 in
theorem gX6_hour_X6_next : GoodIn wsX6_hour (wsV RX6 114 RX6 yX6_next wsX6_next) := goodIn_app (goodIn_of _ (by decide +kernel)) ggX6_hour_X6_next
set_option maxRecDepth 20000 in
theorem ggX6_hour_X6_worker : GoodIn wsX6_hour wsX6_worker := goodIn_r _ [16, 17, 5, 18, 19, 47, 48, 49, 50, 51, 52, 53, 54, 55, 56, 57, 58, 59, 60, 61, 62, 63, 64, 65, 66, 67, 68, 69, 70, 71, 72, 73] (by decide +kernel) (by decide +kernel)
set_option maxRecDepth 20000 in
theorem gX6_hour_X6_worker : GoodIn wsX6_hour (wsV RX6 118 RX6 yX6_worker wsX6_worker) := goodIn_app (goodIn_of _ (by decide +kernel)) ggX6_hour_X6_worker
set_option maxRecDepth 20000 in
theorem ggX6_hour_X6_failing : GoodIn wsX6_hour wsX6_failing := goodIn_r _ [23, 24, 25, 26, 27, 47, 48, 49, 50, 51, 52, 53, 54, 55, 56, 57, 58, 59, 60, 61, 62, 63, 64, 65, 66, 67, 68, 69, 70, 71, 72, 73] (by decide +kernel) (by decide +kernel)
set_option maxRecDepth 20000 in
theorem gX6_hour_X6_failing : GoodIn wsX6_hour (wsV RX6 92 RX6 yX6_failing wsX6_failing) := goodIn_app (goodIn_of _ (by decide +kernel)) ggX6_hour_X6_failing
set_option maxRecDepth 20000 in
theorem ggX6_hour_X6_write : GoodIn wsX6_hour wsX6_write := goodIn_r _ [31, 32, 33, 47, 48, 49, 50, 51, 52, 53, 54, 55, 56, 57, 58, 59, 60, 61, 62, 63, 64, 65, 66, 67, 68, 69, 70, 71, 72, 73] (by decide +kernel) (by decide +kernel)
set_option maxRecDepth 20000 in
theorem gX6_hour_X6_write : GoodIn wsX6_hour (wsV RX6 122 RX6 yX6_write wsX6_write) := goodIn_app (goodIn_of _ (by decide +kernel)) ggX6_hour_X6_write
set_option maxRecDepth 20000 in
theorem ggX6_hour_X6_change : GoodIn wsX6_hour wsX6_change := goodIn_r _ [37, 1, 38, 3, 39, 40, 41, 10, 42, 43, 44, 45, 46, 47, 48, 49, 50, 51, 52, 53, 54, 55, 56, 57, 58, 59, 60, 61, 62, 63, 64, 65, 66, 67, 68, 69, 70, 71, 72, 73] (by decide +kernel) (by decide +kernel)
set_option maxRecDepth 20000 in
theorem gX6_hour_X6_change : GoodIn wsX6_hour (wsV RX6 126 RX6 yX6_change wsX6_change) := goodIn_app (goodIn_of _ (by decide +kernel)) ggX6_hour_X6_change
theorem dX6_hour_0 : decode cX6_hour 0 = .ok (.iconst 0, 1) := by decide +kernel
theorem dX6_hour_1 : decode cX6_hour 1 = .ok (.istore_n 3, 1) := by decide +kernel
theorem dX6_hour_2 : decode cX6_hour 2 = .ok (.iload_n 3, 1) := by decide +kernel
theorem dX6_hour_3 : decode cX6_hour 3 = .ok (.aload_n 0, 1) := by decide +kernel
theorem dX6_hour_4 : decode cX6_hour 4 = .ok (.getfield 69, 3) := by decide +kernel
theorem dX6_hour_7 : decode cX6_hour 7 = .ok (.if_icmp .ge 28, 3) := by decide +kernel
theorem dX6_hour_10 : decode cX6_hour 10 = .ok (.aload_n 0, 1) := by decide +kernel
theorem dX6_hour_11 : decode cX6_hour 11 = .ok (.getfield 42, 3) := by decide +kernel
theorem dX6_hour_14 : decode cX6_hour 14 = .ok (.iload_n 3, 1) := by decide +kernel
theorem dX6_hour_15 : decode cX6_hour 15 = .ok (.aload_n 0, 1) := by decide +kernel
theorem dX6_hour_16 : decode cX6_hour 16 = .ok (.getfield 13, 3) := by decide +kernel
theorem dX6_hour_19 : decode cX6_hour 19 = .ok (.iload_n 3, 1) := by decide +kernel
theorem dX6_hour_20 : decode cX6_hour 20 = .ok (.iaload, 1) := by decide +kernel
theorem dX6_hour_21 : decode cX6_hour 21 = .ok (.iastore, 1) := by decide +kernel
theorem dX6_hour_22 : decode cX6_hour 22 = .ok (.aload_n 0, 1) := by decide +kernel
theorem dX6_hour_23 : decode cX6_hour 23 = .ok (.getfield 45, 3) := by decide +kernel
theorem dX6_hour_26 : decode cX6_hour 26 = .ok (.iload_n 3, 1) := by decide +kernel
theorem dX6_hour_27 : decode cX6_hour 27 = .ok (.iconst 0, 1) := by decide +kernel
theorem dX6_hour_28 : decode cX6_hour 28 = .ok (.bastore, 1) := by decide +kernel
theorem dX6_hour_29 : decode cX6_hour 29 = .ok (.iinc 3 1, 3) := by decide +kernel
theorem dX6_hour_32 : decode cX6_hour 32 = .ok (.goto (-30), 3) := by decide +kernel
theorem dX6_hour_35 : decode cX6_hour 35 = .ok (.iconst 0, 1) := by decide +kernel
theorem dX6_hour_36 : decode cX6_hour 36 = .ok (.istore_n 3, 1) := by decide +kernel
theorem dX6_hour_37 : decode cX6_hour 37 = .ok (.iload_n 3, 1) := by decide +kernel
theorem dX6_hour_38 : decode cX6_hour 38 = .ok (.iload_n 2, 1) := by decide +kernel
theorem dX6_hour_39 : decode cX6_hour 39 = .ok (.if_icmp .ge 150, 3) := by decide +kernel
theorem dX6_hour_42 : decode cX6_hour 42 = .ok (.aload_n 0, 1) := by decide +kernel
theorem dX6_hour_43 : decode cX6_hour 43 = .ok (.iload_n 3, 1) := by decide +kernel
theorem dX6_hour_44 : decode cX6_hour 44 = .ok (.invokevirtual 114, 3) := by decide +kernel
theorem dX6_hour_47 : decode cX6_hour 47 = .ok (.istore 4, 2) := by decide +kernel
theorem dX6_hour_49 : decode cX6_hour 49 = .ok (.iload 4, 2) := by decide +kernel
theorem dX6_hour_51 : decode cX6_hour 51 = .ok (.iconst (-1), 1) := by decide +kernel
theorem dX6_hour_52 : decode cX6_hour 52 = .ok (.if_icmp .eq 131, 3) := by decide +kernel
theorem dX6_hour_55 : decode cX6_hour 55 = .ok (.aload_n 0, 1) := by decide +kernel
theorem dX6_hour_56 : decode cX6_hour 56 = .ok (.invokevirtual 118, 3) := by decide +kernel
theorem dX6_hour_59 : decode cX6_hour 59 = .ok (.istore 5, 2) := by decide +kernel
theorem dX6_hour_61 : decode cX6_hour 61 = .ok (.iload 5, 2) := by decide +kernel
theorem dX6_hour_63 : decode cX6_hour 63 = .ok (.iconst (-1), 1) := by decide +kernel
theorem dX6_hour_64 : decode cX6_hour 64 = .ok (.if_icmp .ne 37, 3) := by decide +kernel
theorem dX6_hour_67 : decode cX6_hour 67 = .ok (.iconst 0, 1) := by decide +kernel
theorem dX6_hour_68 : decode cX6_hour 68 = .ok (.istore 6, 2) := by decide +kernel
theorem dX6_hour_70 : decode cX6_hour 70 = .ok (.iload 6, 2) := by decide +kernel
theorem dX6_hour_72 : decode cX6_hour 72 = .ok (.aload_n 0, 1) := by decide +kernel
theorem dX6_hour_73 : decode cX6_hour 73 = .ok (.getfield 69, 3) := by decide +kernel
theorem dX6_hour_76 : decode cX6_hour 76 = .ok (.if_icmp .ge 23, 3) := by decide +kernel
theorem dX6_hour_79 : decode cX6_hour 79 = .ok (.aload_n 0, 1) := by decide +kernel
theorem dX6_hour_80 : decode cX6_hour 80 = .ok (.getfield 13, 3) := by decide +kernel
theorem dX6_hour_83 : decode cX6_hour 83 = .ok (.iload 6, 2) := by decide +kernel
theorem dX6_hour_85 : decode cX6_hour 85 = .ok (.aload_n 0, 1) := by decide +kernel
theorem dX6_hour_86 : decode cX6_hour 86 = .ok (.getfield 42, 3) := by decide +kernel
theorem dX6_hour_89 : decode cX6_hour 89 = .ok (.iload 6, 2) := by decide +kernel
theorem dX6_hour_91 : decode cX6_hour 91 = .ok (.iaload, 1) := by decide +kernel
theorem dX6_hour_92 : decode cX6_hour 92 = .ok (.iastore, 1) := by decide +kernel
theorem dX6_hour_93 : decode cX6_hour 93 = .ok (.iinc 6 1, 3) := by decide +kernel
theorem dX6_hour_96 : decode cX6_hour 96 = .ok (.goto (-26), 3) := by decide +kernel
theorem dX6_hour_99 : decode cX6_hour 99 = .ok (.iconst 0, 1) := by decide +kernel
theorem dX6_hour_100 : decode cX6_hour 100 = .ok (.ireturn, 1) := by decide +kernel
theorem dX6_hour_101 : decode cX6_hour 101 = .ok (.aload_n 0, 1) := by decide +kernel
theorem dX6_hour_102 : decode cX6_hour 102 = .ok (.iload 5, 2) := by decide +kernel
theorem dX6_hour_104 : decode cX6_hour 104 = .ok (.iload 4, 2) := by decide +kernel
theorem dX6_hour_106 : decode cX6_hour 106 = .ok (.iload_n 1, 1) := by decide +kernel
theorem dX6_hour_107 : decode cX6_hour 107 = .ok (.invokevirtual 92, 3) := by decide +kernel
theorem dX6_hour_110 : decode cX6_hour 110 = .ok (.iconst (-1), 1) := by decide +kernel
theorem dX6_hour_111 : decode cX6_hour 111 = .ok (.if_icmp .eq 7, 3) := by decide +kernel
theorem dX6_hour_114 : decode cX6_hour 114 = .ok (.iconst 1, 1) := by decide +kernel
theorem dX6_hour_115 : decode cX6_hour 115 = .ok (.goto 4, 3) := by decide +kernel
theorem dX6_hour_118 : decode cX6_hour 118 = .ok (.iconst 0, 1) := by decide +kernel
theorem dX6_hour_119 : decode cX6_hour 119 = .ok (.istore 6, 2) := by decide +kernel
theorem dX6_hour_121 : decode cX6_hour 121 = .ok (.aload_n 0, 1) := by decide +kernel
theorem dX6_hour_122 : decode cX6_hour 122 = .ok (.iload 5, 2) := by decide +kernel
theorem dX6_hour_124 : decode cX6_hour 124 = .ok (.iload 4, 2) := by decide +kernel
theorem dX6_hour_126 : decode cX6_hour 126 = .ok (.iload_n 1, 1) := by decide +kernel
theorem dX6_hour_127 : decode cX6_hour 127 = .ok (.iload 6, 2) := by decide +kernel
theorem dX6_hour_129 : decode cX6_hour 129 = .ok (.invokevirtual 122, 3) := by decide +kernel
theorem dX6_hour_132 : decode cX6_hour 132 = .ok (.iload 6, 2) := by decide +kernel
theorem dX6_hour_134 : decode cX6_hour 134 = .ok (.ifCond .eq 14, 3) := by decide +kernel
theorem dX6_hour_137 : decode cX6_hour 137 = .ok (.aload_n 0, 1) := by decide +kernel
theorem dX6_hour_138 : decode cX6_hour 138 = .ok (.getfield 32, 3) := by decide +kernel
theorem dX6_hour_141 : decode cX6_hour 141 = .ok (.iload 5, 2) := by decide +kernel
theorem dX6_hour_143 : decode cX6_hour 143 = .ok (.iconst 1, 1) := by decide +kernel
theorem dX6_hour_144 : decode cX6_hour 144 = .ok (.bastore, 1) := by decide +kernel
theorem dX6_hour_145 : decode cX6_hour 145 = .ok (.goto 28, 3) := by decide +kernel
theorem dX6_hour_148 : decode cX6_hour 148 = .ok (.aload_n 0, 1) := by decide +kernel
theorem dX6_hour_149 : decode cX6_hour 149 = .ok (.iload 4, 2) := by decide +kernel
theorem dX6_hour_151 : decode cX6_hour 151 = .ok (.invokevirtual 126, 3) := by decide +kernel
theorem dX6_hour_154 : decode cX6_hour 154 = .ok (.aload_n 0, 1) := by decide +kernel
theorem dX6_hour_155 : decode cX6_hour 155 = .ok (.getfield 45, 3) := by decide +kernel
theorem dX6_hour_158 : decode cX6_hour 158 = .ok (.iload 4, 2) := by decide +kernel
theorem dX6_hour_160 : decode cX6_hour 160 = .ok (.iconst 1, 1) := by decide +kernel
theorem dX6_hour_161 : decode cX6_hour 161 = .ok (.bastore, 1) := by decide +kernel
theorem dX6_hour_162 : decode cX6_hour 162 = .ok (.aload_n 0, 1) := by decide +kernel
theorem dX6_hour_163 : decode cX6_hour 163 = .ok (.getfield 36, 3) := by decide +kernel
theorem dX6_hour_166 : decode cX6_hour 166 = .ok (.iload 5, 2) := by decide +kernel
theorem dX6_hour_168 : decode cX6_hour 168 = .ok (.dup2, 1) := by decide +kernel
theorem dX6_hour_169 : decode cX6_hour 169 = .ok (.iaload, 1) := by decide +kernel
theorem dX6_hour_170 : decode cX6_hour 170 = .ok (.iconst 1, 1) := by decide +kernel
theorem dX6_hour_171 : decode cX6_hour 171 = .ok (.iadd, 1) := by decide +kernel
theorem dX6_hour_172 : decode cX6_hour 172 = .ok (.iastore, 1) := by decide +kernel
theorem dX6_hour_173 : decode cX6_hour 173 = .ok (.aload_n 0, 1) := by decide +kernel
theorem dX6_hour_174 : decode cX6_hour 174 = .ok (.iload_n 3, 1) := by decide +kernel
theorem dX6_hour_175 : decode cX6_hour 175 = .ok (.invokevirtual 114, 3) := by decide +kernel
theorem dX6_hour_178 : decode cX6_hour 178 = .ok (.istore 4, 2) := by decide +kernel
theorem dX6_hour_180 : decode cX6_hour 180 = .ok (.goto (-131), 3) := by decide +kernel
theorem dX6_hour_183 : decode cX6_hour 183 = .ok (.iinc 3 1, 3) := by decide +kernel
theorem dX6_hour_186 : decode cX6_hour 186 = .ok (.goto (-149), 3) := by decide +kernel
theorem dX6_hour_189 : decode cX6_hour 189 = .ok (.iconst 1, 1) := by decide +kernel
theorem dX6_hour_190 : decode cX6_hour 190 = .ok (.ireturn, 1) := by decide +kernel
set_option maxRecDepth 20000 in
theorem ggX6_run_X6_isIn : GoodIn wsX6_run wsX6_isIn := goodIn_r _ [11] (by decide +kernel) (by decide +kernel)
set_option maxRecDepth 20000 in
theorem gX6_run_X6_isIn : GoodIn wsX6_run (va_wsS RX6 85 yX6_isIn wsX6_isIn) := goodIn_app (goodIn_of _ (by decide +kernel)) ggX6_run_X6_isIn
set_option maxRecDepth 20000 in
theorem ggX6_run_X6_colours : GoodIn wsX6_run wsX6_colours := goodIn_r _ [15, 1, 16, 17, 18, 19, 20, 10, 21, 22, 64, 65, 66, 67, 68, 69, 70, 71, 72, 73, 74, 75, 76, 77, 78, 79, 80, 81, 82, 83, 84, 85, 86, 87, 88, 89, 90] (by decide +kernel) (by decide +kernel)
set_option maxRecDepth 20000 in
theorem gX6_run_X6_colours : GoodIn wsX6_run (wsV RX6 130 RX6 yX6_colours wsX6_colours) := goodIn_app (goodIn_of _ (by decide +kernel)) ggX6_run_X6_colours
set_option maxRecDepth 20000 in
theorem ggX6_run_X6_hour : GoodIn wsX6_run wsX6_hour := goodIn_r _ [26, 16, 27, 28, 29, 5, 6, 30, 31, 32, 10, 33, 17, 34, 35, 36, 37, 2, 3, 38, 39, 40, 41, 42, 43, 44, 45, 46, 47, 48, 49, 50, 4, 51, 52, 53, 54, 55, 22, 56, 57, 58, 59, 60, 61, 62, 63, 64, 65, 66, 67, 68, 69, 70, 71, 72, 73, 74, 75, 76, 77, 78, 79, 80, 81, 82, 83, 84, 85, 86, 87, 88, 89, 90] (by decide +kernel) (by decide +kernel)
set_option maxRecDepth 20000 in
theorem gX6_run_X6_hour : GoodIn wsX6_run (wsV RX6 132 RX6 yX6_hour wsX6_hour) := goodIn_app (goodIn_of _ (by decide +kernel)) ggX6_run_X6_hour
theorem dX6_run_0 : decode cX6_run 0 = .ok (.aload_n 0, 1) := by decide +kernel
theorem dX6_run_1 : decode cX6_run 1 = .ok (.iload_n 1, 1) := by decide +kernel
theorem dX6_run_2 : decode cX6_run 2 = .ok (.iconst 1, 1) := by decide +kernel
theorem dX6_run_3 : decode cX6_run 3 = .ok (.bipush 16, 2) := by decide +kernel
theorem dX6_run_5 : decode cX6_run 5 = .ok (.invokestatic 85, 3) := by decide +kernel
theorem dX6_run_8 : decode cX6_run 8 = .ok (.ifCond .eq 17, 3) := by decide +kernel
theorem dX6_run_11 : decode cX6_run 11 = .ok (.iload_n 3, 1) := by decide +kernel
theorem dX6_run_12 : decode cX6_run 12 = .ok (.iconst 1, 1) := by decide +kernel
theorem dX6_run_13 : decode cX6_run 13 = .ok (.bipush 50, 2) := by decide +kernel
theorem dX6_run_15 : decode cX6_run 15 = .ok (.invokestatic 85, 3) := by decide +kernel
theorem dX6_run_18 : decode cX6_run 18 = .ok (.ifCond .eq 7, 3) := by decide +kernel
theorem dX6_run_21 : decode cX6_run 21 = .ok (.iconst 0, 1) := by decide +kernel
theorem dX6_run_22 : decode cX6_run 22 = .ok (.goto 4, 3) := by decide +kernel
theorem dX6_run_25 : decode cX6_run 25 = .ok (.iconst 1, 1) := by decide +kernel
theorem dX6_run_26 : decode cX6_run 26 = .ok (.putfield 72, 3) := by decide +kernel
theorem dX6_run_29 : decode cX6_run 29 = .ok (.aload_n 0, 1) := by decide +kernel
theorem dX6_run_30 : decode cX6_run 30 = .ok (.getfield 72, 3) := by decide +kernel
theorem dX6_run_33 : decode cX6_run 33 = .ok (.ifCond .le 5, 3) := by decide +kernel
theorem dX6_run_36 : decode cX6_run 36 = .ok (.iconst 0, 1) := by decide +kernel
theorem dX6_run_37 : decode cX6_run 37 = .ok (.ireturn, 1) := by decide +kernel
theorem dX6_run_38 : decode cX6_run 38 = .ok (.aload_n 0, 1) := by decide +kernel
theorem dX6_run_39 : decode cX6_run 39 = .ok (.iload_n 1, 1) := by decide +kernel
theorem dX6_run_40 : decode cX6_run 40 = .ok (.putfield 107, 3) := by decide +kernel
theorem dX6_run_43 : decode cX6_run 43 = .ok (.aload_n 0, 1) := by decide +kernel
theorem dX6_run_44 : decode cX6_run 44 = .ok (.iload_n 2, 1) := by decide +kernel
theorem dX6_run_45 : decode cX6_run 45 = .ok (.putfield 110, 3) := by decide +kernel
theorem dX6_run_48 : decode cX6_run 48 = .ok (.aload_n 0, 1) := by decide +kernel
theorem dX6_run_49 : decode cX6_run 49 = .ok (.iconst 0, 1) := by decide +kernel
theorem dX6_run_50 : decode cX6_run 50 = .ok (.putfield 104, 3) := by decide +kernel
theorem dX6_run_53 : decode cX6_run 53 = .ok (.iconst 0, 1) := by decide +kernel
theorem dX6_run_54 : decode cX6_run 54 = .ok (.istore 4, 2) := by decide +kernel
theorem dX6_run_56 : decode cX6_run 56 = .ok (.iload 4, 2) := by decide +kernel
theorem dX6_run_58 : decode cX6_run 58 = .ok (.bipush 16, 2) := by decide +kernel
theorem dX6_run_60 : decode cX6_run 60 = .ok (.if_icmp .ge 25, 3) := by decide +kernel
theorem dX6_run_63 : decode cX6_run 63 = .ok (.aload_n 0, 1) := by decide +kernel
theorem dX6_run_64 : decode cX6_run 64 = .ok (.getfield 32, 3) := by decide +kernel
theorem dX6_run_67 : decode cX6_run 67 = .ok (.iload 4, 2) := by decide +kernel
theorem dX6_run_69 : decode cX6_run 69 = .ok (.iconst 0, 1) := by decide +kernel
theorem dX6_run_70 : decode cX6_run 70 = .ok (.bastore, 1) := by decide +kernel
theorem dX6_run_71 : decode cX6_run 71 = .ok (.aload_n 0, 1) := by decide +kernel
theorem dX6_run_72 : decode cX6_run 72 = .ok (.getfield 36, 3) := by decide +kernel
theorem dX6_run_75 : decode cX6_run 75 = .ok (.iload 4, 2) := by decide +kernel
theorem dX6_run_77 : decode cX6_run 77 = .ok (.iconst 0, 1) := by decide +kernel
theorem dX6_run_78 : decode cX6_run 78 = .ok (.iastore, 1) := by decide +kernel
theorem dX6_run_79 : decode cX6_run 79 = .ok (.iinc 4 1, 3) := by decide +kernel
theorem dX6_run_82 : decode cX6_run 82 = .ok (.goto (-26), 3) := by decide +kernel
theorem dX6_run_85 : decode cX6_run 85 = .ok (.aload_n 0, 1) := by decide +kernel
theorem dX6_run_86 : decode cX6_run 86 = .ok (.invokevirtual 130, 3) := by decide +kernel
theorem dX6_run_89 : decode cX6_run 89 = .ok (.istore 4, 2) := by decide +kernel
theorem dX6_run_91 : decode cX6_run 91 = .ok (.iconst 0, 1) := by decide +kernel
theorem dX6_run_92 : decode cX6_run 92 = .ok (.istore 5, 2) := by decide +kernel
theorem dX6_run_94 : decode cX6_run 94 = .ok (.iconst 1, 1) := by decide +kernel
theorem dX6_run_95 : decode cX6_run 95 = .ok (.istore 6, 2) := by decide +kernel
theorem dX6_run_97 : decode cX6_run 97 = .ok (.iload 6, 2) := by decide +kernel
theorem dX6_run_99 : decode cX6_run 99 = .ok (.ifCond .eq 61, 3) := by decide +kernel
theorem dX6_run_102 : decode cX6_run 102 = .ok (.iload 5, 2) := by decide +kernel
theorem dX6_run_104 : decode cX6_run 104 = .ok (.iload_n 3, 1) := by decide +kernel
theorem dX6_run_105 : decode cX6_run 105 = .ok (.if_icmp .ge 55, 3) := by decide +kernel
theorem dX6_run_108 : decode cX6_run 108 = .ok (.aload_n 0, 1) := by decide +kernel
theorem dX6_run_109 : decode cX6_run 109 = .ok (.iload 5, 2) := by decide +kernel
theorem dX6_run_111 : decode cX6_run 111 = .ok (.iload 4, 2) := by decide +kernel
theorem dX6_run_113 : decode cX6_run 113 = .ok (.invokevirtual 132, 3) := by decide +kernel
theorem dX6_run_116 : decode cX6_run 116 = .ok (.istore 6, 2) := by decide +kernel
theorem dX6_run_118 : decode cX6_run 118 = .ok (.iload 6, 2) := by decide +kernel
theorem dX6_run_120 : decode cX6_run 120 = .ok (.ifCond .eq 10, 3) := by decide +kernel
theorem dX6_run_123 : decode cX6_run 123 = .ok (.iload 5, 2) := by decide +kernel
theorem dX6_run_125 : decode cX6_run 125 = .ok (.iconst 1, 1) := by decide +kernel
theorem dX6_run_126 : decode cX6_run 126 = .ok (.iadd, 1) := by decide +kernel
theorem dX6_run_127 : decode cX6_run 127 = .ok (.goto 5, 3) := by decide +kernel
theorem dX6_run_130 : decode cX6_run 130 = .ok (.iload 5, 2) := by decide +kernel
theorem dX6_run_132 : decode cX6_run 132 = .ok (.istore 5, 2) := by decide +kernel
theorem dX6_run_134 : decode cX6_run 134 = .ok (.iload 6, 2) := by decide +kernel
theorem dX6_run_136 : decode cX6_run 136 = .ok (.ifCond .eq 18, 3) := by decide +kernel
theorem dX6_run_139 : decode cX6_run 139 = .ok (.iload 5, 2) := by decide +kernel
theorem dX6_run_141 : decode cX6_run 141 = .ok (.iconst 1, 1) := by decide +kernel
theorem dX6_run_142 : decode cX6_run 142 = .ok (.isub, 1) := by decide +kernel
theorem dX6_run_143 : decode cX6_run 143 = .ok (.aload_n 0, 1) := by decide +kernel
theorem dX6_run_144 : decode cX6_run 144 = .ok (.getfield 28, 3) := by decide +kernel
theorem dX6_run_147 : decode cX6_run 147 = .ok (.if_icmp .eq 7, 3) := by decide +kernel
theorem dX6_run_150 : decode cX6_run 150 = .ok (.iconst 1, 1) := by decide +kernel
theorem dX6_run_151 : decode cX6_run 151 = .ok (.goto 4, 3) := by decide +kernel
theorem dX6_run_154 : decode cX6_run 154 = .ok (.iconst 0, 1) := by decide +kernel
theorem dX6_run_155 : decode cX6_run 155 = .ok (.istore 6, 2) := by decide +kernel
theorem dX6_run_157 : decode cX6_run 157 = .ok (.goto (-60), 3) := by decide +kernel
theorem dX6_run_160 : decode cX6_run 160 = .ok (.iload 5, 2) := by decide +kernel
theorem dX6_run_162 : decode cX6_run 162 = .ok (.ireturn, 1) := by decide +kernel
set_option maxRecDepth 20000 in
theorem ggX6_at_X6_noZone : GoodIn wsX6_at wsX6_noZone := goodIn_r _ [7, 8, 9, 10, 11, 12, 13, 14, 15, 16, 17, 18, 19, 20, 21, 22, 23, 24, 25, 26, 27, 28, 29, 30, 31, 32, 33, 34, 35] (by decide +kernel) (by decide +kernel)
set_option maxRecDepth 20000 in
theorem gX6_at_X6_noZone : GoodIn wsX6_at (wsV RX6 81 RX6 yX6_noZone wsX6_noZone) := goodIn_app (goodIn_of _ (by decide +kernel)) ggX6_at_X6_noZone
theorem dX6_at_0 : decode cX6_at 0 = .ok (.aload_n 0, 1) := by decide +kernel
theorem dX6_at_1 : decode cX6_at 1 = .ok (.aload_n 0, 1) := by decide +kernel
theorem dX6_at_2 : decode cX6_at 2 = .ok (.iload_n 1, 1) := by decide +kernel
theorem dX6_at_3 : decode cX6_at 3 = .ok (.invokevirtual 81, 3) := by decide +kernel
theorem dX6_at_6 : decode cX6_at 6 = .ok (.ifCond .eq 7, 3) := by decide +kernel
theorem dX6_at_9 : decode cX6_at 9 = .ok (.iconst 1, 1) := by decide +kernel
theorem dX6_at_10 : decode cX6_at 10 = .ok (.goto 4, 3) := by decide +kernel
theorem dX6_at_13 : decode cX6_at 13 = .ok (.iconst 0, 1) := by decide +kernel
theorem dX6_at_14 : decode cX6_at 14 = .ok (.putfield 72, 3) := by decide +kernel
theorem dX6_at_17 : decode cX6_at 17 = .ok (.aload_n 0, 1) := by decide +kernel
theorem dX6_at_18 : decode cX6_at 18 = .ok (.getfield 72, 3) := by decide +kernel
theorem dX6_at_21 : decode cX6_at 21 = .ok (.ifCond .le 7, 3) := by decide +kernel
theorem dX6_at_24 : decode cX6_at 24 = .ok (.iconst 0, 1) := by decide +kernel
theorem dX6_at_25 : decode cX6_at 25 = .ok (.goto 9, 3) := by decide +kernel
theorem dX6_at_28 : decode cX6_at 28 = .ok (.aload_n 0, 1) := by decide +kernel
theorem dX6_at_29 : decode cX6_at 29 = .ok (.getfield 13, 3) := by decide +kernel
theorem dX6_at_32 : decode cX6_at 32 = .ok (.iload_n 1, 1) := by decide +kernel
theorem dX6_at_33 : decode cX6_at 33 = .ok (.iaload, 1) := by decide +kernel
theorem dX6_at_34 : decode cX6_at 34 = .ok (.ireturn, 1) := by decide +kernel
set_option maxRecDepth 20000 in
theorem ggX6_sum_X6_within : GoodIn wsX6_sum wsX6_within := goodIn_r _ [11, 12, 13, 14, 15] (by decide +kernel) (by decide +kernel)
set_option maxRecDepth 20000 in
theorem gX6_sum_X6_within : GoodIn wsX6_sum (va_wsS RX6 100 yX6_within wsX6_within) := goodIn_app (goodIn_of _ (by decide +kernel)) ggX6_sum_X6_within
theorem dX6_sum_0 : decode cX6_sum 0 = .ok (.aload_n 0, 1) := by decide +kernel
theorem dX6_sum_1 : decode cX6_sum 1 = .ok (.iconst 0, 1) := by decide +kernel
theorem dX6_sum_2 : decode cX6_sum 2 = .ok (.putfield 72, 3) := by decide +kernel
theorem dX6_sum_5 : decode cX6_sum 5 = .ok (.iconst 1, 1) := by decide +kernel
theorem dX6_sum_6 : decode cX6_sum 6 = .ok (.istore_n 1, 1) := by decide +kernel
theorem dX6_sum_7 : decode cX6_sum 7 = .ok (.iconst 0, 1) := by decide +kernel
theorem dX6_sum_8 : decode cX6_sum 8 = .ok (.istore_n 2, 1) := by decide +kernel
theorem dX6_sum_9 : decode cX6_sum 9 = .ok (.aload_n 0, 1) := by decide +kernel
theorem dX6_sum_10 : decode cX6_sum 10 = .ok (.getfield 48, 3) := by decide +kernel
theorem dX6_sum_13 : decode cX6_sum 13 = .ok (.iconst 0, 1) := by decide +kernel
theorem dX6_sum_14 : decode cX6_sum 14 = .ok (.iconst 0, 1) := by decide +kernel
theorem dX6_sum_15 : decode cX6_sum 15 = .ok (.iastore, 1) := by decide +kernel
theorem dX6_sum_16 : decode cX6_sum 16 = .ok (.aload_n 0, 1) := by decide +kernel
theorem dX6_sum_17 : decode cX6_sum 17 = .ok (.getfield 51, 3) := by decide +kernel
theorem dX6_sum_20 : decode cX6_sum 20 = .ok (.iconst 0, 1) := by decide +kernel
theorem dX6_sum_21 : decode cX6_sum 21 = .ok (.aload_n 0, 1) := by decide +kernel
theorem dX6_sum_22 : decode cX6_sum 22 = .ok (.getfield 69, 3) := by decide +kernel
theorem dX6_sum_25 : decode cX6_sum 25 = .ok (.iastore, 1) := by decide +kernel
theorem dX6_sum_26 : decode cX6_sum 26 = .ok (.aload_n 0, 1) := by decide +kernel
theorem dX6_sum_27 : decode cX6_sum 27 = .ok (.getfield 54, 3) := by decide +kernel
theorem dX6_sum_30 : decode cX6_sum 30 = .ok (.iconst 0, 1) := by decide +kernel
theorem dX6_sum_31 : decode cX6_sum 31 = .ok (.iconst 0, 1) := by decide +kernel
theorem dX6_sum_32 : decode cX6_sum 32 = .ok (.iastore, 1) := by decide +kernel
theorem dX6_sum_33 : decode cX6_sum 33 = .ok (.iload_n 1, 1) := by decide +kernel
theorem dX6_sum_34 : decode cX6_sum 34 = .ok (.ifCond .le 183, 3) := by decide +kernel
theorem dX6_sum_37 : decode cX6_sum 37 = .ok (.iload_n 1, 1) := by decide +kernel
theorem dX6_sum_38 : decode cX6_sum 38 = .ok (.iconst 1, 1) := by decide +kernel
theorem dX6_sum_39 : decode cX6_sum 39 = .ok (.isub, 1) := by decide +kernel
theorem dX6_sum_40 : decode cX6_sum 40 = .ok (.istore_n 3, 1) := by decide +kernel
theorem dX6_sum_41 : decode cX6_sum 41 = .ok (.aload_n 0, 1) := by decide +kernel
theorem dX6_sum_42 : decode cX6_sum 42 = .ok (.getfield 51, 3) := by decide +kernel
theorem dX6_sum_45 : decode cX6_sum 45 = .ok (.iload_n 3, 1) := by decide +kernel
theorem dX6_sum_46 : decode cX6_sum 46 = .ok (.iaload, 1) := by decide +kernel
theorem dX6_sum_47 : decode cX6_sum 47 = .ok (.iconst 1, 1) := by decide +kernel
theorem dX6_sum_48 : decode cX6_sum 48 = .ok (.iadd, 1) := by decide +kernel
theorem dX6_sum_49 : decode cX6_sum 49 = .ok (.iconst 2, 1) := by decide +kernel
theorem dX6_sum_50 : decode cX6_sum 50 = .ok (.idiv, 1) := by decide +kernel
theorem dX6_sum_51 : decode cX6_sum 51 = .ok (.istore 4, 2) := by decide +kernel
theorem dX6_sum_53 : decode cX6_sum 53 = .ok (.aload_n 0, 1) := by decide +kernel
theorem dX6_sum_54 : decode cX6_sum 54 = .ok (.getfield 51, 3) := by decide +kernel
theorem dX6_sum_57 : decode cX6_sum 57 = .ok (.iload_n 3, 1) := by decide +kernel
theorem dX6_sum_58 : decode cX6_sum 58 = .ok (.iaload, 1) := by decide +kernel
theorem dX6_sum_59 : decode cX6_sum 59 = .ok (.iconst 1, 1) := by decide +kernel
theorem dX6_sum_60 : decode cX6_sum 60 = .ok (.if_icmp .ne 21, 3) := by decide +kernel
theorem dX6_sum_63 : decode cX6_sum 63 = .ok (.aload_n 0, 1) := by decide +kernel
theorem dX6_sum_64 : decode cX6_sum 64 = .ok (.getfield 13, 3) := by decide +kernel
theorem dX6_sum_67 : decode cX6_sum 67 = .ok (.aload_n 0, 1) := by decide +kernel
theorem dX6_sum_68 : decode cX6_sum 68 = .ok (.getfield 48, 3) := by decide +kernel
theorem dX6_sum_71 : decode cX6_sum 71 = .ok (.iload_n 3, 1) := by decide +kernel
theorem dX6_sum_72 : decode cX6_sum 72 = .ok (.iaload, 1) := by decide +kernel
theorem dX6_sum_73 : decode cX6_sum 73 = .ok (.iaload, 1) := by decide +kernel
theorem dX6_sum_74 : decode cX6_sum 74 = .ok (.istore_n 2, 1) := by decide +kernel
theorem dX6_sum_75 : decode cX6_sum 75 = .ok (.iinc 1 (-1), 3) := by decide +kernel
theorem dX6_sum_78 : decode cX6_sum 78 = .ok (.goto 136, 3) := by decide +kernel
theorem dX6_sum_81 : decode cX6_sum 81 = .ok (.aload_n 0, 1) := by decide +kernel
theorem dX6_sum_82 : decode cX6_sum 82 = .ok (.getfield 54, 3) := by decide +kernel
theorem dX6_sum_85 : decode cX6_sum 85 = .ok (.iload_n 3, 1) := by decide +kernel
theorem dX6_sum_86 : decode cX6_sum 86 = .ok (.iaload, 1) := by decide +kernel
theorem dX6_sum_87 : decode cX6_sum 87 = .ok (.ifCond .ne 43, 3) := by decide +kernel
theorem dX6_sum_90 : decode cX6_sum 90 = .ok (.aload_n 0, 1) := by decide +kernel
theorem dX6_sum_91 : decode cX6_sum 91 = .ok (.getfield 54, 3) := by decide +kernel
theorem dX6_sum_94 : decode cX6_sum 94 = .ok (.iload_n 3, 1) := by decide +kernel
theorem dX6_sum_95 : decode cX6_sum 95 = .ok (.iconst 1, 1) := by decide +kernel
theorem dX6_sum_96 : decode cX6_sum 96 = .ok (.iastore, 1) := by decide +kernel
theorem dX6_sum_97 : decode cX6_sum 97 = .ok (.aload_n 0, 1) := by decide +kernel
theorem dX6_sum_98 : decode cX6_sum 98 = .ok (.getfield 48, 3) := by decide +kernel
theorem dX6_sum_101 : decode cX6_sum 101 = .ok (.iload_n 1, 1) := by decide +kernel
theorem dX6_sum_102 : decode cX6_sum 102 = .ok (.aload_n 0, 1) := by decide +kernel
theorem dX6_sum_103 : decode cX6_sum 103 = .ok (.getfield 48, 3) := by decide +kernel
theorem dX6_sum_106 : decode cX6_sum 106 = .ok (.iload_n 3, 1) := by decide +kernel
theorem dX6_sum_107 : decode cX6_sum 107 = .ok (.iaload, 1) := by decide +kernel
theorem dX6_sum_108 : decode cX6_sum 108 = .ok (.iastore, 1) := by decide +kernel
theorem dX6_sum_109 : decode cX6_sum 109 = .ok (.aload_n 0, 1) := by decide +kernel
theorem dX6_sum_110 : decode cX6_sum 110 = .ok (.getfield 51, 3) := by decide +kernel
theorem dX6_sum_113 : decode cX6_sum 113 = .ok (.iload_n 1, 1) := by decide +kernel
theorem dX6_sum_114 : decode cX6_sum 114 = .ok (.iload 4, 2) := by decide +kernel
theorem dX6_sum_116 : decode cX6_sum 116 = .ok (.iastore, 1) := by decide +kernel
theorem dX6_sum_117 : decode cX6_sum 117 = .ok (.aload_n 0, 1) := by decide +kernel
theorem dX6_sum_118 : decode cX6_sum 118 = .ok (.getfield 54, 3) := by decide +kernel
theorem dX6_sum_121 : decode cX6_sum 121 = .ok (.iload_n 1, 1) := by decide +kernel
theorem dX6_sum_122 : decode cX6_sum 122 = .ok (.iconst 0, 1) := by decide +kernel
theorem dX6_sum_123 : decode cX6_sum 123 = .ok (.iastore, 1) := by decide +kernel
theorem dX6_sum_124 : decode cX6_sum 124 = .ok (.iinc 1 1, 3) := by decide +kernel
theorem dX6_sum_127 : decode cX6_sum 127 = .ok (.goto 87, 3) := by decide +kernel
theorem dX6_sum_130 : decode cX6_sum 130 = .ok (.aload_n 0, 1) := by decide +kernel
theorem dX6_sum_131 : decode cX6_sum 131 = .ok (.getfield 54, 3) := by decide +kernel
theorem dX6_sum_134 : decode cX6_sum 134 = .ok (.iload_n 3, 1) := by decide +kernel
theorem dX6_sum_135 : decode cX6_sum 135 = .ok (.iaload, 1) := by decide +kernel
theorem dX6_sum_136 : decode cX6_sum 136 = .ok (.iconst 1, 1) := by decide +kernel
theorem dX6_sum_137 : decode cX6_sum 137 = .ok (.if_icmp .ne 60, 3) := by decide +kernel
theorem dX6_sum_140 : decode cX6_sum 140 = .ok (.aload_n 0, 1) := by decide +kernel
theorem dX6_sum_141 : decode cX6_sum 141 = .ok (.getfield 57, 3) := by decide +kernel
theorem dX6_sum_144 : decode cX6_sum 144 = .ok (.iload_n 3, 1) := by decide +kernel
theorem dX6_sum_145 : decode cX6_sum 145 = .ok (.iload_n 2, 1) := by decide +kernel
theorem dX6_sum_146 : decode cX6_sum 146 = .ok (.iastore, 1) := by decide +kernel
theorem dX6_sum_147 : decode cX6_sum 147 = .ok (.aload_n 0, 1) := by decide +kernel
theorem dX6_sum_148 : decode cX6_sum 148 = .ok (.getfield 54, 3) := by decide +kernel
theorem dX6_sum_151 : decode cX6_sum 151 = .ok (.iload_n 3, 1) := by decide +kernel
theorem dX6_sum_152 : decode cX6_sum 152 = .ok (.iconst 2, 1) := by decide +kernel
theorem dX6_sum_153 : decode cX6_sum 153 = .ok (.iastore, 1) := by decide +kernel
theorem dX6_sum_154 : decode cX6_sum 154 = .ok (.aload_n 0, 1) := by decide +kernel
theorem dX6_sum_155 : decode cX6_sum 155 = .ok (.getfield 48, 3) := by decide +kernel
theorem dX6_sum_158 : decode cX6_sum 158 = .ok (.iload_n 1, 1) := by decide +kernel
theorem dX6_sum_159 : decode cX6_sum 159 = .ok (.aload_n 0, 1) := by decide +kernel
theorem dX6_sum_160 : decode cX6_sum 160 = .ok (.getfield 48, 3) := by decide +kernel
theorem dX6_sum_163 : decode cX6_sum 163 = .ok (.iload_n 3, 1) := by decide +kernel
theorem dX6_sum_164 : decode cX6_sum 164 = .ok (.iaload, 1) := by decide +kernel
theorem dX6_sum_165 : decode cX6_sum 165 = .ok (.iload 4, 2) := by decide +kernel
theorem dX6_sum_167 : decode cX6_sum 167 = .ok (.iadd, 1) := by decide +kernel
theorem dX6_sum_168 : decode cX6_sum 168 = .ok (.iastore, 1) := by decide +kernel
theorem dX6_sum_169 : decode cX6_sum 169 = .ok (.aload_n 0, 1) := by decide +kernel
theorem dX6_sum_170 : decode cX6_sum 170 = .ok (.getfield 51, 3) := by decide +kernel
theorem dX6_sum_173 : decode cX6_sum 173 = .ok (.iload_n 1, 1) := by decide +kernel
theorem dX6_sum_174 : decode cX6_sum 174 = .ok (.aload_n 0, 1) := by decide +kernel
theorem dX6_sum_175 : decode cX6_sum 175 = .ok (.getfield 51, 3) := by decide +kernel
theorem dX6_sum_178 : decode cX6_sum 178 = .ok (.iload_n 3, 1) := by decide +kernel
theorem dX6_sum_179 : decode cX6_sum 179 = .ok (.iaload, 1) := by decide +kernel
theorem dX6_sum_180 : decode cX6_sum 180 = .ok (.iload 4, 2) := by decide +kernel
theorem dX6_sum_182 : decode cX6_sum 182 = .ok (.isub, 1) := by decide +kernel
theorem dX6_sum_183 : decode cX6_sum 183 = .ok (.iastore, 1) := by decide +kernel
theorem dX6_sum_184 : decode cX6_sum 184 = .ok (.aload_n 0, 1) := by decide +kernel
theorem dX6_sum_185 : decode cX6_sum 185 = .ok (.getfield 54, 3) := by decide +kernel
theorem dX6_sum_188 : decode cX6_sum 188 = .ok (.iload_n 1, 1) := by decide +kernel
theorem dX6_sum_189 : decode cX6_sum 189 = .ok (.iconst 0, 1) := by decide +kernel
theorem dX6_sum_190 : decode cX6_sum 190 = .ok (.iastore, 1) := by decide +kernel
theorem dX6_sum_191 : decode cX6_sum 191 = .ok (.iinc 1 1, 3) := by decide +kernel
theorem dX6_sum_194 : decode cX6_sum 194 = .ok (.goto 20, 3) := by decide +kernel
theorem dX6_sum_197 : decode cX6_sum 197 = .ok (.aload_n 0, 1) := by decide +kernel
theorem dX6_sum_198 : decode cX6_sum 198 = .ok (.getfield 57, 3) := by decide +kernel
theorem dX6_sum_201 : decode cX6_sum 201 = .ok (.iload_n 3, 1) := by decide +kernel
theorem dX6_sum_202 : decode cX6_sum 202 = .ok (.iaload, 1) := by decide +kernel
theorem dX6_sum_203 : decode cX6_sum 203 = .ok (.i2l, 1) := by decide +kernel
theorem dX6_sum_204 : decode cX6_sum 204 = .ok (.iload_n 2, 1) := by decide +kernel
theorem dX6_sum_205 : decode cX6_sum 205 = .ok (.i2l, 1) := by decide +kernel
theorem dX6_sum_206 : decode cX6_sum 206 = .ok (.ladd, 1) := by decide +kernel
theorem dX6_sum_207 : decode cX6_sum 207 = .ok (.invokestatic 100, 3) := by decide +kernel
theorem dX6_sum_210 : decode cX6_sum 210 = .ok (.istore_n 2, 1) := by decide +kernel
theorem dX6_sum_211 : decode cX6_sum 211 = .ok (.iinc 1 (-1), 3) := by decide +kernel
theorem dX6_sum_214 : decode cX6_sum 214 = .ok (.goto (-181), 3) := by decide +kernel
theorem dX6_sum_217 : decode cX6_sum 217 = .ok (.iload_n 2, 1) := by decide +kernel
theorem dX6_sum_218 : decode cX6_sum 218 = .ok (.ireturn, 1) := by decide +kernel
set_option maxRecDepth 20000 in
theorem ggX6_book_X6_isIn : GoodIn wsX6_book wsX6_isIn := goodIn_r _ [7] (by decide +kernel) (by decide +kernel)
set_option maxRecDepth 20000 in
theorem gX6_book_X6_isIn : GoodIn wsX6_book (va_wsS RX6 85 yX6_isIn wsX6_isIn) := goodIn_app (goodIn_of _ (by decide +kernel)) ggX6_book_X6_isIn
theorem dX6_book_0 : decode cX6_book 0 = .ok (.iload_n 2, 1) := by decide +kernel
theorem dX6_book_1 : decode cX6_book 1 = .ok (.iconst 0, 1) := by decide +kernel
theorem dX6_book_2 : decode cX6_book 2 = .ok (.iconst 3, 1) := by decide +kernel
theorem dX6_book_3 : decode cX6_book 3 = .ok (.invokestatic 85, 3) := by decide +kernel
theorem dX6_book_6 : decode cX6_book 6 = .ok (.ifCond .eq 26, 3) := by decide +kernel
theorem dX6_book_9 : decode cX6_book 9 = .ok (.iload_n 1, 1) := by decide +kernel
theorem dX6_book_10 : decode cX6_book 10 = .ok (.iconst (-1), 1) := by decide +kernel
theorem dX6_book_11 : decode cX6_book 11 = .ok (.if_icmp .eq 17, 3) := by decide +kernel
theorem dX6_book_14 : decode cX6_book 14 = .ok (.iload_n 1, 1) := by decide +kernel
theorem dX6_book_15 : decode cX6_book 15 = .ok (.iconst 0, 1) := by decide +kernel
theorem dX6_book_16 : decode cX6_book 16 = .ok (.aload_n 0, 1) := by decide +kernel
theorem dX6_book_17 : decode cX6_book 17 = .ok (.getfield 104, 3) := by decide +kernel
theorem dX6_book_20 : decode cX6_book 20 = .ok (.iconst 1, 1) := by decide +kernel
theorem dX6_book_21 : decode cX6_book 21 = .ok (.isub, 1) := by decide +kernel
theorem dX6_book_22 : decode cX6_book 22 = .ok (.invokestatic 85, 3) := by decide +kernel
theorem dX6_book_25 : decode cX6_book 25 = .ok (.ifCond .eq 7, 3) := by decide +kernel
theorem dX6_book_28 : decode cX6_book 28 = .ok (.iconst 1, 1) := by decide +kernel
theorem dX6_book_29 : decode cX6_book 29 = .ok (.goto 4, 3) := by decide +kernel
theorem dX6_book_32 : decode cX6_book 32 = .ok (.iconst 0, 1) := by decide +kernel
theorem dX6_book_33 : decode cX6_book 33 = .ok (.istore_n 3, 1) := by decide +kernel
theorem dX6_book_34 : decode cX6_book 34 = .ok (.aload_n 0, 1) := by decide +kernel
theorem dX6_book_35 : decode cX6_book 35 = .ok (.iload_n 3, 1) := by decide +kernel
theorem dX6_book_36 : decode cX6_book 36 = .ok (.ifCond .eq 7, 3) := by decide +kernel
theorem dX6_book_39 : decode cX6_book 39 = .ok (.iconst 0, 1) := by decide +kernel
theorem dX6_book_40 : decode cX6_book 40 = .ok (.goto 4, 3) := by decide +kernel
theorem dX6_book_43 : decode cX6_book 43 = .ok (.iconst 1, 1) := by decide +kernel
theorem dX6_book_44 : decode cX6_book 44 = .ok (.putfield 72, 3) := by decide +kernel
theorem dX6_book_47 : decode cX6_book 47 = .ok (.aload_n 0, 1) := by decide +kernel
theorem dX6_book_48 : decode cX6_book 48 = .ok (.getfield 72, 3) := by decide +kernel
theorem dX6_book_51 : decode cX6_book 51 = .ok (.ifCond .le 7, 3) := by decide +kernel
theorem dX6_book_54 : decode cX6_book 54 = .ok (.iconst 0, 1) := by decide +kernel
theorem dX6_book_55 : decode cX6_book 55 = .ok (.goto 25, 3) := by decide +kernel
theorem dX6_book_58 : decode cX6_book 58 = .ok (.iload_n 1, 1) := by decide +kernel
theorem dX6_book_59 : decode cX6_book 59 = .ok (.iconst (-1), 1) := by decide +kernel
theorem dX6_book_60 : decode cX6_book 60 = .ok (.if_icmp .ne 10, 3) := by decide +kernel
theorem dX6_book_63 : decode cX6_book 63 = .ok (.aload_n 0, 1) := by decide +kernel
theorem dX6_book_64 : decode cX6_book 64 = .ok (.getfield 104, 3) := by decide +kernel
theorem dX6_book_67 : decode cX6_book 67 = .ok (.goto 13, 3) := by decide +kernel
theorem dX6_book_70 : decode cX6_book 70 = .ok (.aload_n 0, 1) := by decide +kernel
theorem dX6_book_71 : decode cX6_book 71 = .ok (.getfield 39, 3) := by decide +kernel
theorem dX6_book_74 : decode cX6_book 74 = .ok (.iconst 4, 1) := by decide +kernel
theorem dX6_book_75 : decode cX6_book 75 = .ok (.iload_n 1, 1) := by decide +kernel
theorem dX6_book_76 : decode cX6_book 76 = .ok (.imul, 1) := by decide +kernel
theorem dX6_book_77 : decode cX6_book 77 = .ok (.iload_n 2, 1) := by decide +kernel
theorem dX6_book_78 : decode cX6_book 78 = .ok (.iadd, 1) := by decide +kernel
theorem dX6_book_79 : decode cX6_book 79 = .ok (.iaload, 1) := by decide +kernel
theorem dX6_book_80 : decode cX6_book 80 = .ok (.ireturn, 1) := by decide +kernel
set_option maxRecDepth 20000 in
theorem ggX6_did_X6_isIn : GoodIn wsX6_did wsX6_isIn := goodIn_r _ [8] (by decide +kernel) (by decide +kernel)
set_option maxRecDepth 20000 in
theorem gX6_did_X6_isIn : GoodIn wsX6_did (va_wsS RX6 85 yX6_isIn wsX6_isIn) := goodIn_app (goodIn_of _ (by decide +kernel)) ggX6_did_X6_isIn
theorem dX6_did_0 : decode cX6_did 0 = .ok (.aload_n 0, 1) := by decide +kernel
theorem dX6_did_1 : decode cX6_did 1 = .ok (.iload_n 1, 1) := by decide +kernel
theorem dX6_did_2 : decode cX6_did 2 = .ok (.iconst 0, 1) := by decide +kernel
theorem dX6_did_3 : decode cX6_did 3 = .ok (.bipush 15, 2) := by decide +kernel
theorem dX6_did_5 : decode cX6_did 5 = .ok (.invokestatic 85, 3) := by decide +kernel
theorem dX6_did_8 : decode cX6_did 8 = .ok (.ifCond .eq 7, 3) := by decide +kernel
theorem dX6_did_11 : decode cX6_did 11 = .ok (.iconst 0, 1) := by decide +kernel
theorem dX6_did_12 : decode cX6_did 12 = .ok (.goto 4, 3) := by decide +kernel
theorem dX6_did_15 : decode cX6_did 15 = .ok (.iconst 1, 1) := by decide +kernel
theorem dX6_did_16 : decode cX6_did 16 = .ok (.putfield 72, 3) := by decide +kernel
theorem dX6_did_19 : decode cX6_did 19 = .ok (.aload_n 0, 1) := by decide +kernel
theorem dX6_did_20 : decode cX6_did 20 = .ok (.getfield 72, 3) := by decide +kernel
theorem dX6_did_23 : decode cX6_did 23 = .ok (.ifCond .le 5, 3) := by decide +kernel
theorem dX6_did_26 : decode cX6_did 26 = .ok (.iconst 0, 1) := by decide +kernel
theorem dX6_did_27 : decode cX6_did 27 = .ok (.ireturn, 1) := by decide +kernel
theorem dX6_did_28 : decode cX6_did 28 = .ok (.iload_n 1, 1) := by decide +kernel
theorem dX6_did_29 : decode cX6_did 29 = .ok (.aload_n 0, 1) := by decide +kernel
theorem dX6_did_30 : decode cX6_did 30 = .ok (.getfield 107, 3) := by decide +kernel
theorem dX6_did_33 : decode cX6_did 33 = .ok (.if_icmp .ge 12, 3) := by decide +kernel
theorem dX6_did_36 : decode cX6_did 36 = .ok (.aload_n 0, 1) := by decide +kernel
theorem dX6_did_37 : decode cX6_did 37 = .ok (.getfield 32, 3) := by decide +kernel
theorem dX6_did_40 : decode cX6_did 40 = .ok (.iload_n 1, 1) := by decide +kernel
theorem dX6_did_41 : decode cX6_did 41 = .ok (.baload, 1) := by decide +kernel
theorem dX6_did_42 : decode cX6_did 42 = .ok (.ifCond .eq 7, 3) := by decide +kernel
theorem dX6_did_45 : decode cX6_did 45 = .ok (.iconst (-1), 1) := by decide +kernel
theorem dX6_did_46 : decode cX6_did 46 = .ok (.goto 9, 3) := by decide +kernel
theorem dX6_did_49 : decode cX6_did 49 = .ok (.aload_n 0, 1) := by decide +kernel
theorem dX6_did_50 : decode cX6_did 50 = .ok (.getfield 36, 3) := by decide +kernel
theorem dX6_did_53 : decode cX6_did 53 = .ok (.iload_n 1, 1) := by decide +kernel
theorem dX6_did_54 : decode cX6_did 54 = .ok (.iaload, 1) := by decide +kernel
theorem dX6_did_55 : decode cX6_did 55 = .ok (.ireturn, 1) := by decide +kernel
set_option maxRecDepth 20000 in
theorem ggX6_foretold_X6_noZone : GoodIn wsX6_foretold wsX6_noZone := goodIn_r _ [10, 2, 35, 36, 37, 38, 39, 40, 41, 42, 43, 44, 45, 46, 47, 48, 49, 50, 51, 52, 53, 54, 55, 56, 57, 58, 59, 60, 61] (by decide +kernel) (by decide +kernel)
set_option maxRecDepth 20000 in
theorem gX6_foretold_X6_noZone : GoodIn wsX6_foretold (wsV RX6 81 RX6 yX6_noZone wsX6_noZone) := goodIn_app (goodIn_of _ (by decide +kernel)) ggX6_foretold_X6_noZone
set_option maxRecDepth 20000 in
theorem ggX6_foretold_X6_isIn : GoodIn wsX6_foretold wsX6_isIn := goodIn_r _ [13] (by decide +kernel) (by decide +kernel)
set_option maxRecDepth 20000 in
theorem gX6_foretold_X6_isIn : GoodIn wsX6_foretold (va_wsS RX6 85 yX6_isIn wsX6_isIn) := goodIn_app (goodIn_of _ (by decide +kernel)) ggX6_foretold_X6_isIn
set_option maxRecDepth 20000 in
theorem ggX6_foretold_X6_colours : GoodIn wsX6_foretold wsX6_colours := goodIn_r _ [17, 1, 2, 5, 18, 19, 20, 9, 21, 22, 35, 36, 37, 38, 39, 40, 41, 42, 43, 44, 45, 46, 47, 48, 49, 50, 51, 52, 53, 54, 55, 56, 57, 58, 59, 60, 61] (by decide +kernel) (by decide +kernel)
set_option maxRecDepth 20000 in
theorem gX6_foretold_X6_colours : GoodIn wsX6_foretold (wsV RX6 130 RX6 yX6_colours wsX6_colours) := goodIn_app (goodIn_of _ (by decide +kernel)) ggX6_foretold_X6_colours
set_option maxRecDepth 20000 in
theorem ggX6_foretold_X6_change : GoodIn wsX6_foretold wsX6_change := goodIn_r _ [26, 2, 22, 4, 27, 28, 29, 9, 30, 31, 32, 33, 34, 35, 36, 37, 38, 39, 40, 41, 42, 43, 44, 45, 46, 47, 48, 49, 50, 51, 52, 53, 54, 55, 56, 57, 58, 59, 60, 61] (by decide +kernel) (by decide +kernel)
set_option maxRecDepth 20000 in
theorem gX6_foretold_X6_change : GoodIn wsX6_foretold (wsV RX6 126 RX6 yX6_change wsX6_change) := goodIn_app (goodIn_of _ (by decide +kernel)) ggX6_foretold_X6_change
theorem dX6_foretold_0 : decode cX6_foretold 0 = .ok (.aload_n 0, 1) := by decide +kernel
theorem dX6_foretold_1 : decode cX6_foretold 1 = .ok (.aload_n 0, 1) := by decide +kernel
theorem dX6_foretold_2 : decode cX6_foretold 2 = .ok (.iload_n 1, 1) := by decide +kernel
theorem dX6_foretold_3 : decode cX6_foretold 3 = .ok (.invokevirtual 81, 3) := by decide +kernel
theorem dX6_foretold_6 : decode cX6_foretold 6 = .ok (.ifCond .ne 13, 3) := by decide +kernel
theorem dX6_foretold_9 : decode cX6_foretold 9 = .ok (.iload_n 2, 1) := by decide +kernel
theorem dX6_foretold_10 : decode cX6_foretold 10 = .ok (.iconst 0, 1) := by decide +kernel
theorem dX6_foretold_11 : decode cX6_foretold 11 = .ok (.bipush 50, 2) := by decide +kernel
theorem dX6_foretold_13 : decode cX6_foretold 13 = .ok (.invokestatic 85, 3) := by decide +kernel
theorem dX6_foretold_16 : decode cX6_foretold 16 = .ok (.ifCond .ne 7, 3) := by decide +kernel
theorem dX6_foretold_19 : decode cX6_foretold 19 = .ok (.iconst 1, 1) := by decide +kernel
theorem dX6_foretold_20 : decode cX6_foretold 20 = .ok (.goto 4, 3) := by decide +kernel
theorem dX6_foretold_23 : decode cX6_foretold 23 = .ok (.iconst 0, 1) := by decide +kernel
theorem dX6_foretold_24 : decode cX6_foretold 24 = .ok (.putfield 72, 3) := by decide +kernel
theorem dX6_foretold_27 : decode cX6_foretold 27 = .ok (.aload_n 0, 1) := by decide +kernel
theorem dX6_foretold_28 : decode cX6_foretold 28 = .ok (.getfield 72, 3) := by decide +kernel
theorem dX6_foretold_31 : decode cX6_foretold 31 = .ok (.ifCond .le 5, 3) := by decide +kernel
theorem dX6_foretold_34 : decode cX6_foretold 34 = .ok (.iconst 0, 1) := by decide +kernel
theorem dX6_foretold_35 : decode cX6_foretold 35 = .ok (.ireturn, 1) := by decide +kernel
theorem dX6_foretold_36 : decode cX6_foretold 36 = .ok (.iconst 0, 1) := by decide +kernel
theorem dX6_foretold_37 : decode cX6_foretold 37 = .ok (.istore_n 3, 1) := by decide +kernel
theorem dX6_foretold_38 : decode cX6_foretold 38 = .ok (.iload_n 3, 1) := by decide +kernel
theorem dX6_foretold_39 : decode cX6_foretold 39 = .ok (.aload_n 0, 1) := by decide +kernel
theorem dX6_foretold_40 : decode cX6_foretold 40 = .ok (.getfield 69, 3) := by decide +kernel
theorem dX6_foretold_43 : decode cX6_foretold 43 = .ok (.if_icmp .ge 21, 3) := by decide +kernel
theorem dX6_foretold_46 : decode cX6_foretold 46 = .ok (.aload_n 0, 1) := by decide +kernel
theorem dX6_foretold_47 : decode cX6_foretold 47 = .ok (.getfield 42, 3) := by decide +kernel
theorem dX6_foretold_50 : decode cX6_foretold 50 = .ok (.iload_n 3, 1) := by decide +kernel
theorem dX6_foretold_51 : decode cX6_foretold 51 = .ok (.aload_n 0, 1) := by decide +kernel
theorem dX6_foretold_52 : decode cX6_foretold 52 = .ok (.getfield 13, 3) := by decide +kernel
theorem dX6_foretold_55 : decode cX6_foretold 55 = .ok (.iload_n 3, 1) := by decide +kernel
theorem dX6_foretold_56 : decode cX6_foretold 56 = .ok (.iaload, 1) := by decide +kernel
theorem dX6_foretold_57 : decode cX6_foretold 57 = .ok (.iastore, 1) := by decide +kernel
theorem dX6_foretold_58 : decode cX6_foretold 58 = .ok (.iinc 3 1, 3) := by decide +kernel
theorem dX6_foretold_61 : decode cX6_foretold 61 = .ok (.goto (-23), 3) := by decide +kernel
theorem dX6_foretold_64 : decode cX6_foretold 64 = .ok (.aload_n 0, 1) := by decide +kernel
theorem dX6_foretold_65 : decode cX6_foretold 65 = .ok (.invokevirtual 130, 3) := by decide +kernel
theorem dX6_foretold_68 : decode cX6_foretold 68 = .ok (.istore_n 3, 1) := by decide +kernel
theorem dX6_foretold_69 : decode cX6_foretold 69 = .ok (.iconst 0, 1) := by decide +kernel
theorem dX6_foretold_70 : decode cX6_foretold 70 = .ok (.istore 4, 2) := by decide +kernel
theorem dX6_foretold_72 : decode cX6_foretold 72 = .ok (.iload 4, 2) := by decide +kernel
theorem dX6_foretold_74 : decode cX6_foretold 74 = .ok (.iload_n 2, 1) := by decide +kernel
theorem dX6_foretold_75 : decode cX6_foretold 75 = .ok (.iload_n 3, 1) := by decide +kernel
theorem dX6_foretold_76 : decode cX6_foretold 76 = .ok (.imul, 1) := by decide +kernel
theorem dX6_foretold_77 : decode cX6_foretold 77 = .ok (.if_icmp .ge 47, 3) := by decide +kernel
theorem dX6_foretold_80 : decode cX6_foretold 80 = .ok (.iconst 0, 1) := by decide +kernel
theorem dX6_foretold_81 : decode cX6_foretold 81 = .ok (.istore 5, 2) := by decide +kernel
theorem dX6_foretold_83 : decode cX6_foretold 83 = .ok (.iload 5, 2) := by decide +kernel
theorem dX6_foretold_85 : decode cX6_foretold 85 = .ok (.aload_n 0, 1) := by decide +kernel
theorem dX6_foretold_86 : decode cX6_foretold 86 = .ok (.getfield 69, 3) := by decide +kernel
theorem dX6_foretold_89 : decode cX6_foretold 89 = .ok (.if_icmp .ge 29, 3) := by decide +kernel
theorem dX6_foretold_92 : decode cX6_foretold 92 = .ok (.aload_n 0, 1) := by decide +kernel
theorem dX6_foretold_93 : decode cX6_foretold 93 = .ok (.getfield 16, 3) := by decide +kernel
theorem dX6_foretold_96 : decode cX6_foretold 96 = .ok (.iload 5, 2) := by decide +kernel
theorem dX6_foretold_98 : decode cX6_foretold 98 = .ok (.iaload, 1) := by decide +kernel
theorem dX6_foretold_99 : decode cX6_foretold 99 = .ok (.iload 4, 2) := by decide +kernel
theorem dX6_foretold_101 : decode cX6_foretold 101 = .ok (.iload_n 3, 1) := by decide +kernel
theorem dX6_foretold_102 : decode cX6_foretold 102 = .ok (.irem, 1) := by decide +kernel
theorem dX6_foretold_103 : decode cX6_foretold 103 = .ok (.if_icmp .ne 9, 3) := by decide +kernel
theorem dX6_foretold_106 : decode cX6_foretold 106 = .ok (.aload_n 0, 1) := by decide +kernel
theorem dX6_foretold_107 : decode cX6_foretold 107 = .ok (.iload 5, 2) := by decide +kernel
theorem dX6_foretold_109 : decode cX6_foretold 109 = .ok (.invokevirtual 126, 3) := by decide +kernel
theorem dX6_foretold_112 : decode cX6_foretold 112 = .ok (.iinc 5 1, 3) := by decide +kernel
theorem dX6_foretold_115 : decode cX6_foretold 115 = .ok (.goto (-32), 3) := by decide +kernel
theorem dX6_foretold_118 : decode cX6_foretold 118 = .ok (.iinc 4 1, 3) := by decide +kernel
theorem dX6_foretold_121 : decode cX6_foretold 121 = .ok (.goto (-49), 3) := by decide +kernel
theorem dX6_foretold_124 : decode cX6_foretold 124 = .ok (.aload_n 0, 1) := by decide +kernel
theorem dX6_foretold_125 : decode cX6_foretold 125 = .ok (.getfield 13, 3) := by decide +kernel
theorem dX6_foretold_128 : decode cX6_foretold 128 = .ok (.iload_n 1, 1) := by decide +kernel
theorem dX6_foretold_129 : decode cX6_foretold 129 = .ok (.iaload, 1) := by decide +kernel
theorem dX6_foretold_130 : decode cX6_foretold 130 = .ok (.istore 4, 2) := by decide +kernel
theorem dX6_foretold_132 : decode cX6_foretold 132 = .ok (.iconst 0, 1) := by decide +kernel
theorem dX6_foretold_133 : decode cX6_foretold 133 = .ok (.istore 5, 2) := by decide +kernel
theorem dX6_foretold_135 : decode cX6_foretold 135 = .ok (.iload 5, 2) := by decide +kernel
theorem dX6_foretold_137 : decode cX6_foretold 137 = .ok (.aload_n 0, 1) := by decide +kernel
theorem dX6_foretold_138 : decode cX6_foretold 138 = .ok (.getfield 69, 3) := by decide +kernel
theorem dX6_foretold_141 : decode cX6_foretold 141 = .ok (.if_icmp .ge 23, 3) := by decide +kernel
theorem dX6_foretold_144 : decode cX6_foretold 144 = .ok (.aload_n 0, 1) := by decide +kernel
theorem dX6_foretold_145 : decode cX6_foretold 145 = .ok (.getfield 13, 3) := by decide +kernel
theorem dX6_foretold_148 : decode cX6_foretold 148 = .ok (.iload 5, 2) := by decide +kernel
theorem dX6_foretold_150 : decode cX6_foretold 150 = .ok (.aload_n 0, 1) := by decide +kernel
theorem dX6_foretold_151 : decode cX6_foretold 151 = .ok (.getfield 42, 3) := by decide +kernel
theorem dX6_foretold_154 : decode cX6_foretold 154 = .ok (.iload 5, 2) := by decide +kernel
theorem dX6_foretold_156 : decode cX6_foretold 156 = .ok (.iaload, 1) := by decide +kernel
theorem dX6_foretold_157 : decode cX6_foretold 157 = .ok (.iastore, 1) := by decide +kernel
theorem dX6_foretold_158 : decode cX6_foretold 158 = .ok (.iinc 5 1, 3) := by decide +kernel
theorem dX6_foretold_161 : decode cX6_foretold 161 = .ok (.goto (-26), 3) := by decide +kernel
theorem dX6_foretold_164 : decode cX6_foretold 164 = .ok (.iload 4, 2) := by decide +kernel
theorem dX6_foretold_166 : decode cX6_foretold 166 = .ok (.ireturn, 1) := by decide +kernel
set_option maxRecDepth 20000 in
theorem ggX6_job_X6_isIn : GoodIn wsX6_job wsX6_isIn := goodIn_r _ [10] (by decide +kernel) (by decide +kernel)
set_option maxRecDepth 20000 in
theorem gX6_job_X6_isIn : GoodIn wsX6_job (va_wsS RX6 85 yX6_isIn wsX6_isIn) := goodIn_app (goodIn_of _ (by decide +kernel)) ggX6_job_X6_isIn
theorem dX6_job_0 : decode cX6_job 0 = .ok (.aload_n 0, 1) := by decide +kernel
theorem dX6_job_1 : decode cX6_job 1 = .ok (.iload_n 1, 1) := by decide +kernel
theorem dX6_job_2 : decode cX6_job 2 = .ok (.iconst 0, 1) := by decide +kernel
theorem dX6_job_3 : decode cX6_job 3 = .ok (.bipush 100, 2) := by decide +kernel
theorem dX6_job_5 : decode cX6_job 5 = .ok (.invokestatic 85, 3) := by decide +kernel
theorem dX6_job_8 : decode cX6_job 8 = .ok (.ifCond .ne 7, 3) := by decide +kernel
theorem dX6_job_11 : decode cX6_job 11 = .ok (.iconst 1, 1) := by decide +kernel
theorem dX6_job_12 : decode cX6_job 12 = .ok (.goto 17, 3) := by decide +kernel
theorem dX6_job_15 : decode cX6_job 15 = .ok (.aload_n 0, 1) := by decide +kernel
theorem dX6_job_16 : decode cX6_job 16 = .ok (.getfield 136, 3) := by decide +kernel
theorem dX6_job_19 : decode cX6_job 19 = .ok (.bipush 100, 2) := by decide +kernel
theorem dX6_job_21 : decode cX6_job 21 = .ok (.if_icmp .ne 7, 3) := by decide +kernel
theorem dX6_job_24 : decode cX6_job 24 = .ok (.iconst 2, 1) := by decide +kernel
theorem dX6_job_25 : decode cX6_job 25 = .ok (.goto 4, 3) := by decide +kernel
theorem dX6_job_28 : decode cX6_job 28 = .ok (.iconst 0, 1) := by decide +kernel
theorem dX6_job_29 : decode cX6_job 29 = .ok (.putfield 72, 3) := by decide +kernel
theorem dX6_job_32 : decode cX6_job 32 = .ok (.aload_n 0, 1) := by decide +kernel
theorem dX6_job_33 : decode cX6_job 33 = .ok (.getfield 72, 3) := by decide +kernel
theorem dX6_job_36 : decode cX6_job 36 = .ok (.ifCond .le 5, 3) := by decide +kernel
theorem dX6_job_39 : decode cX6_job 39 = .ok (.iconst 0, 1) := by decide +kernel
theorem dX6_job_40 : decode cX6_job 40 = .ok (.ireturn, 1) := by decide +kernel
theorem dX6_job_41 : decode cX6_job 41 = .ok (.aload_n 0, 1) := by decide +kernel
theorem dX6_job_42 : decode cX6_job 42 = .ok (.getfield 63, 3) := by decide +kernel
theorem dX6_job_45 : decode cX6_job 45 = .ok (.aload_n 0, 1) := by decide +kernel
theorem dX6_job_46 : decode cX6_job 46 = .ok (.getfield 139, 3) := by decide +kernel
theorem dX6_job_49 : decode cX6_job 49 = .ok (.iload_n 1, 1) := by decide +kernel
theorem dX6_job_50 : decode cX6_job 50 = .ok (.iastore, 1) := by decide +kernel
theorem dX6_job_51 : decode cX6_job 51 = .ok (.aload_n 0, 1) := by decide +kernel
theorem dX6_job_52 : decode cX6_job 52 = .ok (.getfield 66, 3) := by decide +kernel
theorem dX6_job_55 : decode cX6_job 55 = .ok (.aload_n 0, 1) := by decide +kernel
theorem dX6_job_56 : decode cX6_job 56 = .ok (.getfield 139, 3) := by decide +kernel
theorem dX6_job_59 : decode cX6_job 59 = .ok (.iconst 0, 1) := by decide +kernel
theorem dX6_job_60 : decode cX6_job 60 = .ok (.iastore, 1) := by decide +kernel
theorem dX6_job_61 : decode cX6_job 61 = .ok (.aload_n 0, 1) := by decide +kernel
theorem dX6_job_62 : decode cX6_job 62 = .ok (.getfield 60, 3) := by decide +kernel
theorem dX6_job_65 : decode cX6_job 65 = .ok (.aload_n 0, 1) := by decide +kernel
theorem dX6_job_66 : decode cX6_job 66 = .ok (.getfield 139, 3) := by decide +kernel
theorem dX6_job_69 : decode cX6_job 69 = .ok (.iconst 1, 1) := by decide +kernel
theorem dX6_job_70 : decode cX6_job 70 = .ok (.bastore, 1) := by decide +kernel
theorem dX6_job_71 : decode cX6_job 71 = .ok (.aload_n 0, 1) := by decide +kernel
theorem dX6_job_72 : decode cX6_job 72 = .ok (.dup, 1) := by decide +kernel
theorem dX6_job_73 : decode cX6_job 73 = .ok (.getfield 136, 3) := by decide +kernel
theorem dX6_job_76 : decode cX6_job 76 = .ok (.iconst 1, 1) := by decide +kernel
theorem dX6_job_77 : decode cX6_job 77 = .ok (.iadd, 1) := by decide +kernel
theorem dX6_job_78 : decode cX6_job 78 = .ok (.putfield 136, 3) := by decide +kernel
theorem dX6_job_81 : decode cX6_job 81 = .ok (.aload_n 0, 1) := by decide +kernel
theorem dX6_job_82 : decode cX6_job 82 = .ok (.dup, 1) := by decide +kernel
theorem dX6_job_83 : decode cX6_job 83 = .ok (.getfield 139, 3) := by decide +kernel
theorem dX6_job_86 : decode cX6_job 86 = .ok (.iconst 1, 1) := by decide +kernel
theorem dX6_job_87 : decode cX6_job 87 = .ok (.iadd, 1) := by decide +kernel
theorem dX6_job_88 : decode cX6_job 88 = .ok (.putfield 139, 3) := by decide +kernel
theorem dX6_job_91 : decode cX6_job 91 = .ok (.aload_n 0, 1) := by decide +kernel
theorem dX6_job_92 : decode cX6_job 92 = .ok (.getfield 139, 3) := by decide +kernel
theorem dX6_job_95 : decode cX6_job 95 = .ok (.iconst 1, 1) := by decide +kernel
theorem dX6_job_96 : decode cX6_job 96 = .ok (.isub, 1) := by decide +kernel
theorem dX6_job_97 : decode cX6_job 97 = .ok (.ireturn, 1) := by decide +kernel
theorem dX6_take_0 : decode cX6_take 0 = .ok (.aload_n 0, 1) := by decide +kernel
theorem dX6_take_1 : decode cX6_take 1 = .ok (.iconst 0, 1) := by decide +kernel
theorem dX6_take_2 : decode cX6_take 2 = .ok (.putfield 72, 3) := by decide +kernel
theorem dX6_take_5 : decode cX6_take 5 = .ok (.iconst (-1), 1) := by decide +kernel
theorem dX6_take_6 : decode cX6_take 6 = .ok (.istore_n 1, 1) := by decide +kernel
theorem dX6_take_7 : decode cX6_take 7 = .ok (.iconst 0, 1) := by decide +kernel
theorem dX6_take_8 : decode cX6_take 8 = .ok (.istore_n 2, 1) := by decide +kernel
theorem dX6_take_9 : decode cX6_take 9 = .ok (.iload_n 2, 1) := by decide +kernel
theorem dX6_take_10 : decode cX6_take 10 = .ok (.aload_n 0, 1) := by decide +kernel
theorem dX6_take_11 : decode cX6_take 11 = .ok (.getfield 139, 3) := by decide +kernel
theorem dX6_take_14 : decode cX6_take 14 = .ok (.if_icmp .ge 54, 3) := by decide +kernel
theorem dX6_take_17 : decode cX6_take 17 = .ok (.aload_n 0, 1) := by decide +kernel
theorem dX6_take_18 : decode cX6_take 18 = .ok (.getfield 60, 3) := by decide +kernel
theorem dX6_take_21 : decode cX6_take 21 = .ok (.iload_n 2, 1) := by decide +kernel
theorem dX6_take_22 : decode cX6_take 22 = .ok (.baload, 1) := by decide +kernel
theorem dX6_take_23 : decode cX6_take 23 = .ok (.ifCond .eq 39, 3) := by decide +kernel
theorem dX6_take_26 : decode cX6_take 26 = .ok (.iload_n 1, 1) := by decide +kernel
theorem dX6_take_27 : decode cX6_take 27 = .ok (.iconst (-1), 1) := by decide +kernel
theorem dX6_take_28 : decode cX6_take 28 = .ok (.if_icmp .eq 32, 3) := by decide +kernel
theorem dX6_take_31 : decode cX6_take 31 = .ok (.aload_n 0, 1) := by decide +kernel
theorem dX6_take_32 : decode cX6_take 32 = .ok (.getfield 63, 3) := by decide +kernel
theorem dX6_take_35 : decode cX6_take 35 = .ok (.iload_n 2, 1) := by decide +kernel
theorem dX6_take_36 : decode cX6_take 36 = .ok (.iaload, 1) := by decide +kernel
theorem dX6_take_37 : decode cX6_take 37 = .ok (.aload_n 0, 1) := by decide +kernel
theorem dX6_take_38 : decode cX6_take 38 = .ok (.getfield 66, 3) := by decide +kernel
theorem dX6_take_41 : decode cX6_take 41 = .ok (.iload_n 2, 1) := by decide +kernel
theorem dX6_take_42 : decode cX6_take 42 = .ok (.iaload, 1) := by decide +kernel
theorem dX6_take_43 : decode cX6_take 43 = .ok (.iadd, 1) := by decide +kernel
theorem dX6_take_44 : decode cX6_take 44 = .ok (.aload_n 0, 1) := by decide +kernel
theorem dX6_take_45 : decode cX6_take 45 = .ok (.getfield 63, 3) := by decide +kernel
theorem dX6_take_48 : decode cX6_take 48 = .ok (.iload_n 1, 1) := by decide +kernel
theorem dX6_take_49 : decode cX6_take 49 = .ok (.iaload, 1) := by decide +kernel
theorem dX6_take_50 : decode cX6_take 50 = .ok (.aload_n 0, 1) := by decide +kernel
theorem dX6_take_51 : decode cX6_take 51 = .ok (.getfield 66, 3) := by decide +kernel
theorem dX6_take_54 : decode cX6_take 54 = .ok (.iload_n 1, 1) := by decide +kernel
theorem dX6_take_55 : decode cX6_take 55 = .ok (.iaload, 1) := by decide +kernel
theorem dX6_take_56 : decode cX6_take 56 = .ok (.iadd, 1) := by decide +kernel
theorem dX6_take_57 : decode cX6_take 57 = .ok (.if_icmp .le 5, 3) := by decide +kernel
theorem dX6_take_60 : decode cX6_take 60 = .ok (.iload_n 2, 1) := by decide +kernel
theorem dX6_take_61 : decode cX6_take 61 = .ok (.istore_n 1, 1) := by decide +kernel
theorem dX6_take_62 : decode cX6_take 62 = .ok (.iinc 2 1, 3) := by decide +kernel
theorem dX6_take_65 : decode cX6_take 65 = .ok (.goto (-56), 3) := by decide +kernel
theorem dX6_take_68 : decode cX6_take 68 = .ok (.iconst 0, 1) := by decide +kernel
theorem dX6_take_69 : decode cX6_take 69 = .ok (.istore_n 2, 1) := by decide +kernel
theorem dX6_take_70 : decode cX6_take 70 = .ok (.iload_n 2, 1) := by decide +kernel
theorem dX6_take_71 : decode cX6_take 71 = .ok (.aload_n 0, 1) := by decide +kernel
theorem dX6_take_72 : decode cX6_take 72 = .ok (.getfield 139, 3) := by decide +kernel
theorem dX6_take_75 : decode cX6_take 75 = .ok (.if_icmp .ge 46, 3) := by decide +kernel
theorem dX6_take_78 : decode cX6_take 78 = .ok (.aload_n 0, 1) := by decide +kernel
theorem dX6_take_79 : decode cX6_take 79 = .ok (.getfield 66, 3) := by decide +kernel
theorem dX6_take_82 : decode cX6_take 82 = .ok (.iload_n 2, 1) := by decide +kernel
theorem dX6_take_83 : decode cX6_take 83 = .ok (.aload_n 0, 1) := by decide +kernel
theorem dX6_take_84 : decode cX6_take 84 = .ok (.getfield 60, 3) := by decide +kernel
theorem dX6_take_87 : decode cX6_take 87 = .ok (.iload_n 2, 1) := by decide +kernel
theorem dX6_take_88 : decode cX6_take 88 = .ok (.baload, 1) := by decide +kernel
theorem dX6_take_89 : decode cX6_take 89 = .ok (.ifCond .eq 19, 3) := by decide +kernel
theorem dX6_take_92 : decode cX6_take 92 = .ok (.iload_n 2, 1) := by decide +kernel
theorem dX6_take_93 : decode cX6_take 93 = .ok (.iload_n 1, 1) := by decide +kernel
theorem dX6_take_94 : decode cX6_take 94 = .ok (.if_icmp .eq 14, 3) := by decide +kernel
theorem dX6_take_97 : decode cX6_take 97 = .ok (.aload_n 0, 1) := by decide +kernel
theorem dX6_take_98 : decode cX6_take 98 = .ok (.getfield 66, 3) := by decide +kernel
theorem dX6_take_101 : decode cX6_take 101 = .ok (.iload_n 2, 1) := by decide +kernel
theorem dX6_take_102 : decode cX6_take 102 = .ok (.iaload, 1) := by decide +kernel
theorem dX6_take_103 : decode cX6_take 103 = .ok (.iconst 1, 1) := by decide +kernel
theorem dX6_take_104 : decode cX6_take 104 = .ok (.iadd, 1) := by decide +kernel
theorem dX6_take_105 : decode cX6_take 105 = .ok (.goto 9, 3) := by decide +kernel
theorem dX6_take_108 : decode cX6_take 108 = .ok (.aload_n 0, 1) := by decide +kernel
theorem dX6_take_109 : decode cX6_take 109 = .ok (.getfield 66, 3) := by decide +kernel
theorem dX6_take_112 : decode cX6_take 112 = .ok (.iload_n 2, 1) := by decide +kernel
theorem dX6_take_113 : decode cX6_take 113 = .ok (.iaload, 1) := by decide +kernel
theorem dX6_take_114 : decode cX6_take 114 = .ok (.iastore, 1) := by decide +kernel
theorem dX6_take_115 : decode cX6_take 115 = .ok (.iinc 2 1, 3) := by decide +kernel
theorem dX6_take_118 : decode cX6_take 118 = .ok (.goto (-48), 3) := by decide +kernel
theorem dX6_take_121 : decode cX6_take 121 = .ok (.iload_n 1, 1) := by decide +kernel
theorem dX6_take_122 : decode cX6_take 122 = .ok (.iconst (-1), 1) := by decide +kernel
theorem dX6_take_123 : decode cX6_take 123 = .ok (.if_icmp .eq 20, 3) := by decide +kernel
theorem dX6_take_126 : decode cX6_take 126 = .ok (.aload_n 0, 1) := by decide +kernel
theorem dX6_take_127 : decode cX6_take 127 = .ok (.getfield 60, 3) := by decide +kernel
theorem dX6_take_130 : decode cX6_take 130 = .ok (.iload_n 1, 1) := by decide +kernel
theorem dX6_take_131 : decode cX6_take 131 = .ok (.iconst 0, 1) := by decide +kernel
theorem dX6_take_132 : decode cX6_take 132 = .ok (.bastore, 1) := by decide +kernel
theorem dX6_take_133 : decode cX6_take 133 = .ok (.aload_n 0, 1) := by decide +kernel
theorem dX6_take_134 : decode cX6_take 134 = .ok (.dup, 1) := by decide +kernel
theorem dX6_take_135 : decode cX6_take 135 = .ok (.getfield 136, 3) := by decide +kernel
theorem dX6_take_138 : decode cX6_take 138 = .ok (.iconst 1, 1) := by decide +kernel
theorem dX6_take_139 : decode cX6_take 139 = .ok (.isub, 1) := by decide +kernel
theorem dX6_take_140 : decode cX6_take 140 = .ok (.putfield 136, 3) := by decide +kernel
theorem dX6_take_143 : decode cX6_take 143 = .ok (.iload_n 1, 1) := by decide +kernel
theorem dX6_take_144 : decode cX6_take 144 = .ok (.ireturn, 1) := by decide +kernel
set_option maxRecDepth 20000 in
theorem ggX6_age_X6_isIn : GoodIn wsX6_age wsX6_isIn := goodIn_r _ [8] (by decide +kernel) (by decide +kernel)
set_option maxRecDepth 20000 in
theorem gX6_age_X6_isIn : GoodIn wsX6_age (va_wsS RX6 85 yX6_isIn wsX6_isIn) := goodIn_app (goodIn_of _ (by decide +kernel)) ggX6_age_X6_isIn
theorem dX6_age_0 : decode cX6_age 0 = .ok (.aload_n 0, 1) := by decide +kernel
theorem dX6_age_1 : decode cX6_age 1 = .ok (.iload_n 1, 1) := by decide +kernel
theorem dX6_age_2 : decode cX6_age 2 = .ok (.iconst 0, 1) := by decide +kernel
theorem dX6_age_3 : decode cX6_age 3 = .ok (.aload_n 0, 1) := by decide +kernel
theorem dX6_age_4 : decode cX6_age 4 = .ok (.getfield 139, 3) := by decide +kernel
theorem dX6_age_7 : decode cX6_age 7 = .ok (.iconst 1, 1) := by decide +kernel
theorem dX6_age_8 : decode cX6_age 8 = .ok (.isub, 1) := by decide +kernel
theorem dX6_age_9 : decode cX6_age 9 = .ok (.invokestatic 85, 3) := by decide +kernel
theorem dX6_age_12 : decode cX6_age 12 = .ok (.ifCond .eq 7, 3) := by decide +kernel
theorem dX6_age_15 : decode cX6_age 15 = .ok (.iconst 0, 1) := by decide +kernel
theorem dX6_age_16 : decode cX6_age 16 = .ok (.goto 4, 3) := by decide +kernel
theorem dX6_age_19 : decode cX6_age 19 = .ok (.iconst 1, 1) := by decide +kernel
theorem dX6_age_20 : decode cX6_age 20 = .ok (.putfield 72, 3) := by decide +kernel
theorem dX6_age_23 : decode cX6_age 23 = .ok (.aload_n 0, 1) := by decide +kernel
theorem dX6_age_24 : decode cX6_age 24 = .ok (.getfield 72, 3) := by decide +kernel
theorem dX6_age_27 : decode cX6_age 27 = .ok (.ifCond .le 7, 3) := by decide +kernel
theorem dX6_age_30 : decode cX6_age 30 = .ok (.iconst 0, 1) := by decide +kernel
theorem dX6_age_31 : decode cX6_age 31 = .ok (.goto 22, 3) := by decide +kernel
theorem dX6_age_34 : decode cX6_age 34 = .ok (.aload_n 0, 1) := by decide +kernel
theorem dX6_age_35 : decode cX6_age 35 = .ok (.getfield 60, 3) := by decide +kernel
theorem dX6_age_38 : decode cX6_age 38 = .ok (.iload_n 1, 1) := by decide +kernel
theorem dX6_age_39 : decode cX6_age 39 = .ok (.baload, 1) := by decide +kernel
theorem dX6_age_40 : decode cX6_age 40 = .ok (.ifCond .eq 12, 3) := by decide +kernel
theorem dX6_age_43 : decode cX6_age 43 = .ok (.aload_n 0, 1) := by decide +kernel
theorem dX6_age_44 : decode cX6_age 44 = .ok (.getfield 66, 3) := by decide +kernel
theorem dX6_age_47 : decode cX6_age 47 = .ok (.iload_n 1, 1) := by decide +kernel
theorem dX6_age_48 : decode cX6_age 48 = .ok (.iaload, 1) := by decide +kernel
theorem dX6_age_49 : decode cX6_age 49 = .ok (.goto 4, 3) := by decide +kernel
theorem dX6_age_52 : decode cX6_age 52 = .ok (.iconst (-1), 1) := by decide +kernel
theorem dX6_age_53 : decode cX6_age 53 = .ok (.ireturn, 1) := by decide +kernel
theorem dJ9_max_7cf53_0 : decode cJ9_max_7cf53 0 = .ok (.iload_n 0, 1) := by decide +kernel
theorem dJ9_max_7cf53_1 : decode cJ9_max_7cf53 1 = .ok (.iload_n 1, 1) := by decide +kernel
theorem dJ9_max_7cf53_2 : decode cJ9_max_7cf53 2 = .ok (.if_icmp .lt 7, 3) := by decide +kernel
theorem dJ9_max_7cf53_5 : decode cJ9_max_7cf53 5 = .ok (.iload_n 0, 1) := by decide +kernel
theorem dJ9_max_7cf53_6 : decode cJ9_max_7cf53 6 = .ok (.goto 4, 3) := by decide +kernel
theorem dJ9_max_7cf53_9 : decode cJ9_max_7cf53 9 = .ok (.iload_n 1, 1) := by decide +kernel
theorem dJ9_max_7cf53_10 : decode cJ9_max_7cf53 10 = .ok (.ireturn, 1) := by decide +kernel
theorem dJ9_max_f86c9_0 : decode cJ9_max_f86c9 0 = .ok (.lload_n 0, 1) := by decide +kernel
theorem dJ9_max_f86c9_1 : decode cJ9_max_f86c9 1 = .ok (.lload_n 2, 1) := by decide +kernel
theorem dJ9_max_f86c9_2 : decode cJ9_max_f86c9 2 = .ok (.lcmp, 1) := by decide +kernel
theorem dJ9_max_f86c9_3 : decode cJ9_max_f86c9 3 = .ok (.ifCond .lt 7, 3) := by decide +kernel
theorem dJ9_max_f86c9_6 : decode cJ9_max_f86c9 6 = .ok (.lload_n 0, 1) := by decide +kernel
theorem dJ9_max_f86c9_7 : decode cJ9_max_f86c9 7 = .ok (.goto 4, 3) := by decide +kernel
theorem dJ9_max_f86c9_10 : decode cJ9_max_f86c9 10 = .ok (.lload_n 2, 1) := by decide +kernel
theorem dJ9_max_f86c9_11 : decode cJ9_max_f86c9 11 = .ok (.lreturn, 1) := by decide +kernel
theorem dJ9_min_7cf53_0 : decode cJ9_min_7cf53 0 = .ok (.iload_n 0, 1) := by decide +kernel
theorem dJ9_min_7cf53_1 : decode cJ9_min_7cf53 1 = .ok (.iload_n 1, 1) := by decide +kernel
theorem dJ9_min_7cf53_2 : decode cJ9_min_7cf53 2 = .ok (.if_icmp .gt 7, 3) := by decide +kernel
theorem dJ9_min_7cf53_5 : decode cJ9_min_7cf53 5 = .ok (.iload_n 0, 1) := by decide +kernel
theorem dJ9_min_7cf53_6 : decode cJ9_min_7cf53 6 = .ok (.goto 4, 3) := by decide +kernel
theorem dJ9_min_7cf53_9 : decode cJ9_min_7cf53 9 = .ok (.iload_n 1, 1) := by decide +kernel
theorem dJ9_min_7cf53_10 : decode cJ9_min_7cf53 10 = .ok (.ireturn, 1) := by decide +kernel
theorem dJ9_min_f86c9_0 : decode cJ9_min_f86c9 0 = .ok (.lload_n 0, 1) := by decide +kernel
theorem dJ9_min_f86c9_1 : decode cJ9_min_f86c9 1 = .ok (.lload_n 2, 1) := by decide +kernel
theorem dJ9_min_f86c9_2 : decode cJ9_min_f86c9 2 = .ok (.lcmp, 1) := by decide +kernel
theorem dJ9_min_f86c9_3 : decode cJ9_min_f86c9 3 = .ok (.ifCond .gt 7, 3) := by decide +kernel
theorem dJ9_min_f86c9_6 : decode cJ9_min_f86c9 6 = .ok (.lload_n 0, 1) := by decide +kernel
theorem dJ9_min_f86c9_7 : decode cJ9_min_f86c9 7 = .ok (.goto 4, 3) := by decide +kernel
theorem dJ9_min_f86c9_10 : decode cJ9_min_f86c9 10 = .ok (.lload_n 2, 1) := by decide +kernel
theorem dJ9_min_f86c9_11 : decode cJ9_min_f86c9 11 = .ok (.lreturn, 1) := by decide +kernel
abbrev vwCl : List vw_C := [(RX0, TX0, 2), (RX1, TX1, 3), (RX2, TX2, 2), (RX3, TX3, 5), (RX4, TX4, 7), (RX5, TX5, 6), (RX6, TX6, 27)]
