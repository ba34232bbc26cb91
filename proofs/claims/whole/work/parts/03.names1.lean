theorem dX0_init_0 : decode cX0_init 0 = .ok (.aload_n 0, 1) := by decide +kernel
theorem dX0_init_1 : decode cX0_init 1 = .ok (.invokespecial 3, 3) := by decide +kernel
theorem dX0_init_4 : decode cX0_init 4 = .ok (.aload_n 0, 1) := by decide +kernel
theorem dX0_init_5 : decode cX0_init 5 = .ok (.sipush 2000, 3) := by decide +kernel
theorem dX0_init_8 : decode cX0_init 8 = .ok (.newarray .int, 2) := by decide +kernel
theorem dX0_init_10 : decode cX0_init 10 = .ok (.putfield 9, 3) := by decide +kernel
theorem dX0_init_13 : decode cX0_init 13 = .ok (.aload_n 0, 1) := by decide +kernel
theorem dX0_init_14 : decode cX0_init 14 = .ok (.iconst 0, 1) := by decide +kernel
theorem dX0_init_15 : decode cX0_init 15 = .ok (.putfield 15, 3) := by decide +kernel
theorem dX0_init_18 : decode cX0_init 18 = .ok (.return_, 1) := by decide +kernel
theorem dX0_clear_0 : decode cX0_clear 0 = .ok (.aload_n 0, 1) := by decide +kernel
theorem dX0_clear_1 : decode cX0_clear 1 = .ok (.iconst 0, 1) := by decide +kernel
theorem dX0_clear_2 : decode cX0_clear 2 = .ok (.putfield 15, 3) := by decide +kernel
theorem dX0_clear_5 : decode cX0_clear 5 = .ok (.return_, 1) := by decide +kernel
theorem dX0_size_0 : decode cX0_size 0 = .ok (.aload_n 0, 1) := by decide +kernel
theorem dX0_size_1 : decode cX0_size 1 = .ok (.getfield 15, 3) := by decide +kernel
theorem dX0_size_4 : decode cX0_size 4 = .ok (.ireturn, 1) := by decide +kernel
theorem dX0_add_0 : decode cX0_add 0 = .ok (.aload_n 0, 1) := by decide +kernel
theorem dX0_add_1 : decode cX0_add 1 = .ok (.getfield 15, 3) := by decide +kernel
theorem dX0_add_4 : decode cX0_add 4 = .ok (.sipush 2000, 3) := by decide +kernel
theorem dX0_add_7 : decode cX0_add 7 = .ok (.if_icmp .ge 46, 3) := by decide +kernel
theorem dX0_add_10 : decode cX0_add 10 = .ok (.aload_n 0, 1) := by decide +kernel
theorem dX0_add_11 : decode cX0_add 11 = .ok (.getfield 9, 3) := by decide +kernel
theorem dX0_add_14 : decode cX0_add 14 = .ok (.aload_n 0, 1) := by decide +kernel
theorem dX0_add_15 : decode cX0_add 15 = .ok (.getfield 15, 3) := by decide +kernel
theorem dX0_add_18 : decode cX0_add 18 = .ok (.iload_n 1, 1) := by decide +kernel
theorem dX0_add_19 : decode cX0_add 19 = .ok (.iload_n 2, 1) := by decide +kernel
theorem dX0_add_20 : decode cX0_add 20 = .ok (.iconst 4, 1) := by decide +kernel
theorem dX0_add_21 : decode cX0_add 21 = .ok (.ishl, 1) := by decide +kernel
theorem dX0_add_22 : decode cX0_add 22 = .ok (.ior, 1) := by decide +kernel
theorem dX0_add_23 : decode cX0_add 23 = .ok (.iload_n 3, 1) := by decide +kernel
theorem dX0_add_24 : decode cX0_add 24 = .ok (.bipush 9, 2) := by decide +kernel
theorem dX0_add_26 : decode cX0_add 26 = .ok (.ishl, 1) := by decide +kernel
theorem dX0_add_27 : decode cX0_add 27 = .ok (.ior, 1) := by decide +kernel
theorem dX0_add_28 : decode cX0_add 28 = .ok (.iload 4, 2) := by decide +kernel
theorem dX0_add_30 : decode cX0_add 30 = .ok (.ifCond .eq 7, 3) := by decide +kernel
theorem dX0_add_33 : decode cX0_add 33 = .ok (.iconst 1, 1) := by decide +kernel
theorem dX0_add_34 : decode cX0_add 34 = .ok (.goto 4, 3) := by decide +kernel
theorem dX0_add_37 : decode cX0_add 37 = .ok (.iconst 0, 1) := by decide +kernel
theorem dX0_add_38 : decode cX0_add 38 = .ok (.bipush 19, 2) := by decide +kernel
theorem dX0_add_40 : decode cX0_add 40 = .ok (.ishl, 1) := by decide +kernel
theorem dX0_add_41 : decode cX0_add 41 = .ok (.ior, 1) := by decide +kernel
theorem dX0_add_42 : decode cX0_add 42 = .ok (.iastore, 1) := by decide +kernel
theorem dX0_add_43 : decode cX0_add 43 = .ok (.aload_n 0, 1) := by decide +kernel
theorem dX0_add_44 : decode cX0_add 44 = .ok (.dup, 1) := by decide +kernel
theorem dX0_add_45 : decode cX0_add 45 = .ok (.getfield 15, 3) := by decide +kernel
theorem dX0_add_48 : decode cX0_add 48 = .ok (.iconst 1, 1) := by decide +kernel
theorem dX0_add_49 : decode cX0_add 49 = .ok (.iadd, 1) := by decide +kernel
theorem dX0_add_50 : decode cX0_add 50 = .ok (.putfield 15, 3) := by decide +kernel
theorem dX0_add_53 : decode cX0_add 53 = .ok (.return_, 1) := by decide +kernel
theorem dX0_read_0 : decode cX0_read 0 = .ok (.aload_n 0, 1) := by decide +kernel
theorem dX0_read_1 : decode cX0_read 1 = .ok (.getfield 9, 3) := by decide +kernel
theorem dX0_read_4 : decode cX0_read 4 = .ok (.iload_n 1, 1) := by decide +kernel
theorem dX0_read_5 : decode cX0_read 5 = .ok (.iaload, 1) := by decide +kernel
theorem dX0_read_6 : decode cX0_read 6 = .ok (.istore_n 3, 1) := by decide +kernel
theorem dX0_read_7 : decode cX0_read 7 = .ok (.iload_n 2, 1) := by decide +kernel
theorem dX0_read_8 : decode cX0_read 8 = .ok (.tableswitch 49 0 2 #[28, 33, 40], 28) := by decide +kernel
theorem dX0_read_36 : decode cX0_read 36 = .ok (.iload_n 3, 1) := by decide +kernel
theorem dX0_read_37 : decode cX0_read 37 = .ok (.bipush 15, 2) := by decide +kernel
theorem dX0_read_39 : decode cX0_read 39 = .ok (.iand, 1) := by decide +kernel
theorem dX0_read_40 : decode cX0_read 40 = .ok (.ireturn, 1) := by decide +kernel
theorem dX0_read_41 : decode cX0_read 41 = .ok (.iload_n 3, 1) := by decide +kernel
theorem dX0_read_42 : decode cX0_read 42 = .ok (.iconst 4, 1) := by decide +kernel
theorem dX0_read_43 : decode cX0_read 43 = .ok (.ishr, 1) := by decide +kernel
theorem dX0_read_44 : decode cX0_read 44 = .ok (.bipush 31, 2) := by decide +kernel
theorem dX0_read_46 : decode cX0_read 46 = .ok (.iand, 1) := by decide +kernel
theorem dX0_read_47 : decode cX0_read 47 = .ok (.ireturn, 1) := by decide +kernel
theorem dX0_read_48 : decode cX0_read 48 = .ok (.iload_n 3, 1) := by decide +kernel
theorem dX0_read_49 : decode cX0_read 49 = .ok (.bipush 9, 2) := by decide +kernel
theorem dX0_read_51 : decode cX0_read 51 = .ok (.ishr, 1) := by decide +kernel
theorem dX0_read_52 : decode cX0_read 52 = .ok (.sipush 1023, 3) := by decide +kernel
theorem dX0_read_55 : decode cX0_read 55 = .ok (.iand, 1) := by decide +kernel
theorem dX0_read_56 : decode cX0_read 56 = .ok (.ireturn, 1) := by decide +kernel
theorem dX0_read_57 : decode cX0_read 57 = .ok (.iload_n 3, 1) := by decide +kernel
theorem dX0_read_58 : decode cX0_read 58 = .ok (.bipush 19, 2) := by decide +kernel
theorem dX0_read_60 : decode cX0_read 60 = .ok (.ishr, 1) := by decide +kernel
theorem dX0_read_61 : decode cX0_read 61 = .ok (.iconst 1, 1) := by decide +kernel
theorem dX0_read_62 : decode cX0_read 62 = .ok (.iand, 1) := by decide +kernel
theorem dX0_read_63 : decode cX0_read 63 = .ok (.ireturn, 1) := by decide +kernel
theorem dX1_init_0 : decode cX1_init 0 = .ok (.aload_n 0, 1) := by decide +kernel
theorem dX1_init_1 : decode cX1_init 1 = .ok (.invokespecial 3, 3) := by decide +kernel
theorem dX1_init_4 : decode cX1_init 4 = .ok (.aload_n 0, 1) := by decide +kernel
theorem dX1_init_5 : decode cX1_init 5 = .ok (.bipush 16, 2) := by decide +kernel
theorem dX1_init_7 : decode cX1_init 7 = .ok (.newarray .int, 2) := by decide +kernel
theorem dX1_init_9 : decode cX1_init 9 = .ok (.putfield 9, 3) := by decide +kernel
theorem dX1_init_12 : decode cX1_init 12 = .ok (.iconst 0, 1) := by decide +kernel
theorem dX1_init_13 : decode cX1_init 13 = .ok (.istore_n 1, 1) := by decide +kernel
theorem dX1_init_14 : decode cX1_init 14 = .ok (.iload_n 1, 1) := by decide +kernel
theorem dX1_init_15 : decode cX1_init 15 = .ok (.bipush 16, 2) := by decide +kernel
theorem dX1_init_17 : decode cX1_init 17 = .ok (.if_icmp .ge 16, 3) := by decide +kernel
theorem dX1_init_20 : decode cX1_init 20 = .ok (.aload_n 0, 1) := by decide +kernel
theorem dX1_init_21 : decode cX1_init 21 = .ok (.getfield 9, 3) := by decide +kernel
theorem dX1_init_24 : decode cX1_init 24 = .ok (.iload_n 1, 1) := by decide +kernel
theorem dX1_init_25 : decode cX1_init 25 = .ok (.iconst (-1), 1) := by decide +kernel
theorem dX1_init_26 : decode cX1_init 26 = .ok (.iastore, 1) := by decide +kernel
theorem dX1_init_27 : decode cX1_init 27 = .ok (.iinc 1 1, 3) := by decide +kernel
theorem dX1_init_30 : decode cX1_init 30 = .ok (.goto (-16), 3) := by decide +kernel
theorem dX1_init_33 : decode cX1_init 33 = .ok (.aload_n 0, 1) := by decide +kernel
theorem dX1_init_34 : decode cX1_init 34 = .ok (.iconst 0, 1) := by decide +kernel
theorem dX1_init_35 : decode cX1_init 35 = .ok (.putfield 15, 3) := by decide +kernel
theorem dX1_init_38 : decode cX1_init 38 = .ok (.aload_n 0, 1) := by decide +kernel
theorem dX1_init_39 : decode cX1_init 39 = .ok (.iconst 0, 1) := by decide +kernel
theorem dX1_init_40 : decode cX1_init 40 = .ok (.putfield 19, 3) := by decide +kernel
theorem dX1_init_43 : decode cX1_init 43 = .ok (.return_, 1) := by decide +kernel
theorem dX1_gather_0 : decode cX1_gather 0 = .ok (.iconst 0, 1) := by decide +kernel
theorem dX1_gather_1 : decode cX1_gather 1 = .ok (.istore_n 3, 1) := by decide +kernel
theorem dX1_gather_2 : decode cX1_gather 2 = .ok (.iload_n 3, 1) := by decide +kernel
theorem dX1_gather_3 : decode cX1_gather 3 = .ok (.bipush 16, 2) := by decide +kernel
theorem dX1_gather_5 : decode cX1_gather 5 = .ok (.if_icmp .ge 25, 3) := by decide +kernel
theorem dX1_gather_8 : decode cX1_gather 8 = .ok (.aload_n 0, 1) := by decide +kernel
theorem dX1_gather_9 : decode cX1_gather 9 = .ok (.getfield 9, 3) := by decide +kernel
theorem dX1_gather_12 : decode cX1_gather 12 = .ok (.iload_n 3, 1) := by decide +kernel
theorem dX1_gather_13 : decode cX1_gather 13 = .ok (.iload_n 3, 1) := by decide +kernel
theorem dX1_gather_14 : decode cX1_gather 14 = .ok (.iload_n 1, 1) := by decide +kernel
theorem dX1_gather_15 : decode cX1_gather 15 = .ok (.if_icmp .ge 7, 3) := by decide +kernel
theorem dX1_gather_18 : decode cX1_gather 18 = .ok (.iconst 0, 1) := by decide +kernel
theorem dX1_gather_19 : decode cX1_gather 19 = .ok (.goto 4, 3) := by decide +kernel
theorem dX1_gather_22 : decode cX1_gather 22 = .ok (.iconst (-1), 1) := by decide +kernel
theorem dX1_gather_23 : decode cX1_gather 23 = .ok (.iastore, 1) := by decide +kernel
theorem dX1_gather_24 : decode cX1_gather 24 = .ok (.iinc 3 1, 3) := by decide +kernel
theorem dX1_gather_27 : decode cX1_gather 27 = .ok (.goto (-25), 3) := by decide +kernel
theorem dX1_gather_30 : decode cX1_gather 30 = .ok (.aload_n 0, 1) := by decide +kernel
theorem dX1_gather_31 : decode cX1_gather 31 = .ok (.iload_n 1, 1) := by decide +kernel
theorem dX1_gather_32 : decode cX1_gather 32 = .ok (.putfield 15, 3) := by decide +kernel
theorem dX1_gather_35 : decode cX1_gather 35 = .ok (.aload_n 0, 1) := by decide +kernel
theorem dX1_gather_36 : decode cX1_gather 36 = .ok (.iload_n 2, 1) := by decide +kernel
theorem dX1_gather_37 : decode cX1_gather 37 = .ok (.putfield 19, 3) := by decide +kernel
theorem dX1_gather_40 : decode cX1_gather 40 = .ok (.return_, 1) := by decide +kernel
theorem dX1_draw_0 : decode cX1_draw 0 = .ok (.aload_n 0, 1) := by decide +kernel
theorem dX1_draw_1 : decode cX1_draw 1 = .ok (.getfield 15, 3) := by decide +kernel
theorem dX1_draw_4 : decode cX1_draw 4 = .ok (.ifCond .gt 5, 3) := by decide +kernel
theorem dX1_draw_7 : decode cX1_draw 7 = .ok (.iconst (-1), 1) := by decide +kernel
theorem dX1_draw_8 : decode cX1_draw 8 = .ok (.ireturn, 1) := by decide +kernel
theorem dX1_draw_9 : decode cX1_draw 9 = .ok (.aload_n 0, 1) := by decide +kernel
theorem dX1_draw_10 : decode cX1_draw 10 = .ok (.aload_n 0, 1) := by decide +kernel
theorem dX1_draw_11 : decode cX1_draw 11 = .ok (.getfield 19, 3) := by decide +kernel
theorem dX1_draw_14 : decode cX1_draw 14 = .ok (.ldc 22, 2) := by decide +kernel
theorem dX1_draw_16 : decode cX1_draw 16 = .ok (.imul, 1) := by decide +kernel
theorem dX1_draw_17 : decode cX1_draw 17 = .ok (.sipush 12345, 3) := by decide +kernel
theorem dX1_draw_20 : decode cX1_draw 20 = .ok (.iadd, 1) := by decide +kernel
theorem dX1_draw_21 : decode cX1_draw 21 = .ok (.putfield 19, 3) := by decide +kernel
theorem dX1_draw_24 : decode cX1_draw 24 = .ok (.aload_n 0, 1) := by decide +kernel
theorem dX1_draw_25 : decode cX1_draw 25 = .ok (.getfield 19, 3) := by decide +kernel
theorem dX1_draw_28 : decode cX1_draw 28 = .ok (.bipush 16, 2) := by decide +kernel
theorem dX1_draw_30 : decode cX1_draw 30 = .ok (.iushr, 1) := by decide +kernel
theorem dX1_draw_31 : decode cX1_draw 31 = .ok (.aload_n 0, 1) := by decide +kernel
theorem dX1_draw_32 : decode cX1_draw 32 = .ok (.getfield 15, 3) := by decide +kernel
theorem dX1_draw_35 : decode cX1_draw 35 = .ok (.irem, 1) := by decide +kernel
theorem dX1_draw_36 : decode cX1_draw 36 = .ok (.istore_n 1, 1) := by decide +kernel
theorem dX1_draw_37 : decode cX1_draw 37 = .ok (.iconst 0, 1) := by decide +kernel
theorem dX1_draw_38 : decode cX1_draw 38 = .ok (.istore_n 2, 1) := by decide +kernel
theorem dX1_draw_39 : decode cX1_draw 39 = .ok (.iload_n 2, 1) := by decide +kernel
theorem dX1_draw_40 : decode cX1_draw 40 = .ok (.bipush 16, 2) := by decide +kernel
theorem dX1_draw_42 : decode cX1_draw 42 = .ok (.if_icmp .ge 28, 3) := by decide +kernel
theorem dX1_draw_45 : decode cX1_draw 45 = .ok (.aload_n 0, 1) := by decide +kernel
theorem dX1_draw_46 : decode cX1_draw 46 = .ok (.getfield 9, 3) := by decide +kernel
theorem dX1_draw_49 : decode cX1_draw 49 = .ok (.iload_n 2, 1) := by decide +kernel
theorem dX1_draw_50 : decode cX1_draw 50 = .ok (.iaload, 1) := by decide +kernel
theorem dX1_draw_51 : decode cX1_draw 51 = .ok (.iconst (-1), 1) := by decide +kernel
theorem dX1_draw_52 : decode cX1_draw 52 = .ok (.if_icmp .eq 12, 3) := by decide +kernel
theorem dX1_draw_55 : decode cX1_draw 55 = .ok (.iload_n 1, 1) := by decide +kernel
theorem dX1_draw_56 : decode cX1_draw 56 = .ok (.ifCond .ne 5, 3) := by decide +kernel
theorem dX1_draw_59 : decode cX1_draw 59 = .ok (.iload_n 2, 1) := by decide +kernel
theorem dX1_draw_60 : decode cX1_draw 60 = .ok (.ireturn, 1) := by decide +kernel
theorem dX1_draw_61 : decode cX1_draw 61 = .ok (.iinc 1 (-1), 3) := by decide +kernel
theorem dX1_draw_64 : decode cX1_draw 64 = .ok (.iinc 2 1, 3) := by decide +kernel
theorem dX1_draw_67 : decode cX1_draw 67 = .ok (.goto (-28), 3) := by decide +kernel
theorem dX1_draw_70 : decode cX1_draw 70 = .ok (.iconst (-1), 1) := by decide +kernel
theorem dX1_draw_71 : decode cX1_draw 71 = .ok (.ireturn, 1) := by decide +kernel
theorem dX1_credit_0 : decode cX1_credit 0 = .ok (.aload_n 0, 1) := by decide +kernel
theorem dX1_credit_1 : decode cX1_credit 1 = .ok (.getfield 9, 3) := by decide +kernel
theorem dX1_credit_4 : decode cX1_credit 4 = .ok (.iload_n 1, 1) := by decide +kernel
theorem dX1_credit_5 : decode cX1_credit 5 = .ok (.dup2, 1) := by decide +kernel
theorem dX1_credit_6 : decode cX1_credit 6 = .ok (.iaload, 1) := by decide +kernel
theorem dX1_credit_7 : decode cX1_credit 7 = .ok (.iconst 1, 1) := by decide +kernel
theorem dX1_credit_8 : decode cX1_credit 8 = .ok (.iadd, 1) := by decide +kernel
theorem dX1_credit_9 : decode cX1_credit 9 = .ok (.iastore, 1) := by decide +kernel
theorem dX1_credit_10 : decode cX1_credit 10 = .ok (.return_, 1) := by decide +kernel
theorem dX1_lose_0 : decode cX1_lose 0 = .ok (.aload_n 0, 1) := by decide +kernel
theorem dX1_lose_1 : decode cX1_lose 1 = .ok (.getfield 9, 3) := by decide +kernel
theorem dX1_lose_4 : decode cX1_lose 4 = .ok (.iload_n 1, 1) := by decide +kernel
theorem dX1_lose_5 : decode cX1_lose 5 = .ok (.iconst (-1), 1) := by decide +kernel
theorem dX1_lose_6 : decode cX1_lose 6 = .ok (.iastore, 1) := by decide +kernel
theorem dX1_lose_7 : decode cX1_lose 7 = .ok (.aload_n 0, 1) := by decide +kernel
theorem dX1_lose_8 : decode cX1_lose 8 = .ok (.dup, 1) := by decide +kernel
theorem dX1_lose_9 : decode cX1_lose 9 = .ok (.getfield 15, 3) := by decide +kernel
theorem dX1_lose_12 : decode cX1_lose 12 = .ok (.iconst 1, 1) := by decide +kernel
theorem dX1_lose_13 : decode cX1_lose 13 = .ok (.isub, 1) := by decide +kernel
theorem dX1_lose_14 : decode cX1_lose 14 = .ok (.putfield 15, 3) := by decide +kernel
theorem dX1_lose_17 : decode cX1_lose 17 = .ok (.return_, 1) := by decide +kernel
theorem dX1_doneBy_0 : decode cX1_doneBy 0 = .ok (.aload_n 0, 1) := by decide +kernel
theorem dX1_doneBy_1 : decode cX1_doneBy 1 = .ok (.getfield 9, 3) := by decide +kernel
theorem dX1_doneBy_4 : decode cX1_doneBy 4 = .ok (.iload_n 1, 1) := by decide +kernel
theorem dX1_doneBy_5 : decode cX1_doneBy 5 = .ok (.iaload, 1) := by decide +kernel
theorem dX1_doneBy_6 : decode cX1_doneBy 6 = .ok (.ireturn, 1) := by decide +kernel
theorem dX2_init_0 : decode cX2_init 0 = .ok (.aload_n 0, 1) := by decide +kernel
theorem dX2_init_1 : decode cX2_init 1 = .ok (.invokespecial 3, 3) := by decide +kernel
theorem dX2_init_4 : decode cX2_init 4 = .ok (.aload_n 0, 1) := by decide +kernel
theorem dX2_init_5 : decode cX2_init 5 = .ok (.sipush 200, 3) := by decide +kernel
theorem dX2_init_8 : decode cX2_init 8 = .ok (.newarray .int, 2) := by decide +kernel
theorem dX2_init_10 : decode cX2_init 10 = .ok (.putfield 9, 3) := by decide +kernel
theorem dX2_init_13 : decode cX2_init 13 = .ok (.aload_n 0, 1) := by decide +kernel
theorem dX2_init_14 : decode cX2_init 14 = .ok (.iconst 0, 1) := by decide +kernel
theorem dX2_init_15 : decode cX2_init 15 = .ok (.putfield 15, 3) := by decide +kernel
theorem dX2_init_18 : decode cX2_init 18 = .ok (.return_, 1) := by decide +kernel
theorem dX2_isFull_0 : decode cX2_isFull 0 = .ok (.aload_n 0, 1) := by decide +kernel
theorem dX2_isFull_1 : decode cX2_isFull 1 = .ok (.getfield 15, 3) := by decide +kernel
theorem dX2_isFull_4 : decode cX2_isFull 4 = .ok (.sipush 200, 3) := by decide +kernel
theorem dX2_isFull_7 : decode cX2_isFull 7 = .ok (.if_icmp .lt 7, 3) := by decide +kernel
theorem dX2_isFull_10 : decode cX2_isFull 10 = .ok (.iconst 1, 1) := by decide +kernel
theorem dX2_isFull_11 : decode cX2_isFull 11 = .ok (.goto 4, 3) := by decide +kernel
theorem dX2_isFull_14 : decode cX2_isFull 14 = .ok (.iconst 0, 1) := by decide +kernel
theorem dX2_isFull_15 : decode cX2_isFull 15 = .ok (.ireturn, 1) := by decide +kernel
set_option maxRecDepth 20000 in
theorem ggX2_has_X2_keyOf : GoodIn wsX2_has wsX2_keyOf := goodIn_r _ [4] (by decide +kernel) (by decide +kernel)
set_option maxRecDepth 20000 in
theorem gX2_has_X2_keyOf : GoodIn wsX2_has (va_wsS RX2 19 yX2_keyOf wsX2_keyOf) := goodIn_app (goodIn_of _ (by decide +kernel)) ggX2_has_X2_keyOf
set_option maxRecDepth 20000 in
theorem ggX2_has_X2_placeOf : GoodIn wsX2_has wsX2_placeOf := goodIn_r _ [8, 9, 10, 15, 16] (by decide +kernel) (by decide +kernel)
set_option maxRecDepth 20000 in
theorem gX2_has_X2_placeOf : GoodIn wsX2_has (wsV RX2 23 RX2 yX2_placeOf wsX2_placeOf) := goodIn_app (goodIn_of _ (by decide +kernel)) ggX2_has_X2_placeOf
set_option maxRecDepth 20000 in
theorem ggX2_has_X2_stands : GoodIn wsX2_has wsX2_stands := goodIn_r _ [14, 9, 10, 15, 16] (by decide +kernel) (by decide +kernel)
set_option maxRecDepth 20000 in
theorem gX2_has_X2_stands : GoodIn wsX2_has (wsV RX2 27 RX2 yX2_stands wsX2_stands) := goodIn_app (goodIn_of _ (by decide +kernel)) ggX2_has_X2_stands
theorem dX2_has_0 : decode cX2_has 0 = .ok (.iload_n 1, 1) := by decide +kernel
theorem dX2_has_1 : decode cX2_has 1 = .ok (.iload_n 2, 1) := by decide +kernel
theorem dX2_has_2 : decode cX2_has 2 = .ok (.iload_n 3, 1) := by decide +kernel
theorem dX2_has_3 : decode cX2_has 3 = .ok (.invokestatic 19, 3) := by decide +kernel
theorem dX2_has_6 : decode cX2_has 6 = .ok (.istore 4, 2) := by decide +kernel
theorem dX2_has_8 : decode cX2_has 8 = .ok (.aload_n 0, 1) := by decide +kernel
theorem dX2_has_9 : decode cX2_has 9 = .ok (.aload_n 0, 1) := by decide +kernel
theorem dX2_has_10 : decode cX2_has 10 = .ok (.iload 4, 2) := by decide +kernel
theorem dX2_has_12 : decode cX2_has 12 = .ok (.invokevirtual 23, 3) := by decide +kernel
theorem dX2_has_15 : decode cX2_has 15 = .ok (.iload 4, 2) := by decide +kernel
theorem dX2_has_17 : decode cX2_has 17 = .ok (.invokevirtual 27, 3) := by decide +kernel
theorem dX2_has_20 : decode cX2_has 20 = .ok (.ireturn, 1) := by decide +kernel
set_option maxRecDepth 20000 in
theorem ggX2_add_X2_isFull : GoodIn wsX2_add wsX2_isFull := goodIn_r _ [11, 2, 19, 20] (by decide +kernel) (by decide +kernel)
set_option maxRecDepth 20000 in
theorem gX2_add_X2_isFull : GoodIn wsX2_add (wsV RX2 31 RX2 yX2_isFull wsX2_isFull) := goodIn_app (goodIn_of _ (by decide +kernel)) ggX2_add_X2_isFull
set_option maxRecDepth 20000 in
theorem ggX2_add_X2_keyOf : GoodIn wsX2_add wsX2_keyOf := goodIn_r _ [14] (by decide +kernel) (by decide +kernel)
set_option maxRecDepth 20000 in
theorem gX2_add_X2_keyOf : GoodIn wsX2_add (va_wsS RX2 19 yX2_keyOf wsX2_keyOf) := goodIn_app (goodIn_of _ (by decide +kernel)) ggX2_add_X2_keyOf
set_option maxRecDepth 20000 in
theorem ggX2_add_X2_placeOf : GoodIn wsX2_add wsX2_placeOf := goodIn_r _ [18, 2, 1, 19, 20] (by decide +kernel) (by decide +kernel)
set_option maxRecDepth 20000 in
theorem gX2_add_X2_placeOf : GoodIn wsX2_add (wsV RX2 23 RX2 yX2_placeOf wsX2_placeOf) := goodIn_app (goodIn_of _ (by decide +kernel)) ggX2_add_X2_placeOf
theorem dX2_add_0 : decode cX2_add 0 = .ok (.aload_n 0, 1) := by decide +kernel
theorem dX2_add_1 : decode cX2_add 1 = .ok (.invokevirtual 31, 3) := by decide +kernel
theorem dX2_add_4 : decode cX2_add 4 = .ok (.ifCond .eq 4, 3) := by decide +kernel
theorem dX2_add_7 : decode cX2_add 7 = .ok (.return_, 1) := by decide +kernel
theorem dX2_add_8 : decode cX2_add 8 = .ok (.iload_n 1, 1) := by decide +kernel
theorem dX2_add_9 : decode cX2_add 9 = .ok (.iload_n 2, 1) := by decide +kernel
theorem dX2_add_10 : decode cX2_add 10 = .ok (.iload_n 3, 1) := by decide +kernel
theorem dX2_add_11 : decode cX2_add 11 = .ok (.invokestatic 19, 3) := by decide +kernel
theorem dX2_add_14 : decode cX2_add 14 = .ok (.istore 4, 2) := by decide +kernel
theorem dX2_add_16 : decode cX2_add 16 = .ok (.aload_n 0, 1) := by decide +kernel
theorem dX2_add_17 : decode cX2_add 17 = .ok (.iload 4, 2) := by decide +kernel
theorem dX2_add_19 : decode cX2_add 19 = .ok (.invokevirtual 23, 3) := by decide +kernel
theorem dX2_add_22 : decode cX2_add 22 = .ok (.istore 5, 2) := by decide +kernel
theorem dX2_add_24 : decode cX2_add 24 = .ok (.aload_n 0, 1) := by decide +kernel
theorem dX2_add_25 : decode cX2_add 25 = .ok (.getfield 9, 3) := by decide +kernel
theorem dX2_add_28 : decode cX2_add 28 = .ok (.iload 5, 2) := by decide +kernel
theorem dX2_add_30 : decode cX2_add 30 = .ok (.aload_n 0, 1) := by decide +kernel
theorem dX2_add_31 : decode cX2_add 31 = .ok (.getfield 9, 3) := by decide +kernel
theorem dX2_add_34 : decode cX2_add 34 = .ok (.iload 5, 2) := by decide +kernel
theorem dX2_add_36 : decode cX2_add 36 = .ok (.iconst 1, 1) := by decide +kernel
theorem dX2_add_37 : decode cX2_add 37 = .ok (.iadd, 1) := by decide +kernel
theorem dX2_add_38 : decode cX2_add 38 = .ok (.aload_n 0, 1) := by decide +kernel
theorem dX2_add_39 : decode cX2_add 39 = .ok (.getfield 15, 3) := by decide +kernel
theorem dX2_add_42 : decode cX2_add 42 = .ok (.iload 5, 2) := by decide +kernel
theorem dX2_add_44 : decode cX2_add 44 = .ok (.isub, 1) := by decide +kernel
theorem dX2_add_45 : decode cX2_add 45 = .ok (.invokestatic 35, 3) := by decide +kernel
theorem dX2_add_48 : decode cX2_add 48 = .ok (.aload_n 0, 1) := by decide +kernel
theorem dX2_add_49 : decode cX2_add 49 = .ok (.getfield 9, 3) := by decide +kernel
theorem dX2_add_52 : decode cX2_add 52 = .ok (.iload 5, 2) := by decide +kernel
theorem dX2_add_54 : decode cX2_add 54 = .ok (.iload 4, 2) := by decide +kernel
theorem dX2_add_56 : decode cX2_add 56 = .ok (.iastore, 1) := by decide +kernel
theorem dX2_add_57 : decode cX2_add 57 = .ok (.aload_n 0, 1) := by decide +kernel
theorem dX2_add_58 : decode cX2_add 58 = .ok (.dup, 1) := by decide +kernel
theorem dX2_add_59 : decode cX2_add 59 = .ok (.getfield 15, 3) := by decide +kernel
theorem dX2_add_62 : decode cX2_add 62 = .ok (.iconst 1, 1) := by decide +kernel
theorem dX2_add_63 : decode cX2_add 63 = .ok (.iadd, 1) := by decide +kernel
theorem dX2_add_64 : decode cX2_add 64 = .ok (.putfield 15, 3) := by decide +kernel
theorem dX2_add_67 : decode cX2_add 67 = .ok (.return_, 1) := by decide +kernel
set_option maxRecDepth 20000 in
theorem ggX2_remove_X2_keyOf : GoodIn wsX2_remove wsX2_keyOf := goodIn_r _ [10] (by decide +kernel) (by decide +kernel)
set_option maxRecDepth 20000 in
theorem gX2_remove_X2_keyOf : GoodIn wsX2_remove (va_wsS RX2 19 yX2_keyOf wsX2_keyOf) := goodIn_app (goodIn_of _ (by decide +kernel)) ggX2_remove_X2_keyOf
set_option maxRecDepth 20000 in
theorem ggX2_remove_X2_placeOf : GoodIn wsX2_remove wsX2_placeOf := goodIn_r _ [14, 2, 1, 19, 20] (by decide +kernel) (by decide +kernel)
set_option maxRecDepth 20000 in
theorem gX2_remove_X2_placeOf : GoodIn wsX2_remove (wsV RX2 23 RX2 yX2_placeOf wsX2_placeOf) := goodIn_app (goodIn_of _ (by decide +kernel)) ggX2_remove_X2_placeOf
set_option maxRecDepth 20000 in
theorem ggX2_remove_X2_stands : GoodIn wsX2_remove wsX2_stands := goodIn_r _ [18, 2, 1, 19, 20] (by decide +kernel) (by decide +kernel)
set_option maxRecDepth 20000 in
theorem gX2_remove_X2_stands : GoodIn wsX2_remove (wsV RX2 27 RX2 yX2_stands wsX2_stands) := goodIn_app (goodIn_of _ (by decide +kernel)) ggX2_remove_X2_stands
theorem dX2_remove_0 : decode cX2_remove 0 = .ok (.iload_n 1, 1) := by decide +kernel
theorem dX2_remove_1 : decode cX2_remove 1 = .ok (.iload_n 2, 1) := by decide +kernel
theorem dX2_remove_2 : decode cX2_remove 2 = .ok (.iload_n 3, 1) := by decide +kernel
theorem dX2_remove_3 : decode cX2_remove 3 = .ok (.invokestatic 19, 3) := by decide +kernel
theorem dX2_remove_6 : decode cX2_remove 6 = .ok (.istore 4, 2) := by decide +kernel
theorem dX2_remove_8 : decode cX2_remove 8 = .ok (.aload_n 0, 1) := by decide +kernel
theorem dX2_remove_9 : decode cX2_remove 9 = .ok (.iload 4, 2) := by decide +kernel
theorem dX2_remove_11 : decode cX2_remove 11 = .ok (.invokevirtual 23, 3) := by decide +kernel
theorem dX2_remove_14 : decode cX2_remove 14 = .ok (.istore 5, 2) := by decide +kernel
theorem dX2_remove_16 : decode cX2_remove 16 = .ok (.aload_n 0, 1) := by decide +kernel
theorem dX2_remove_17 : decode cX2_remove 17 = .ok (.iload 5, 2) := by decide +kernel
theorem dX2_remove_19 : decode cX2_remove 19 = .ok (.iload 4, 2) := by decide +kernel
theorem dX2_remove_21 : decode cX2_remove 21 = .ok (.invokevirtual 27, 3) := by decide +kernel
theorem dX2_remove_24 : decode cX2_remove 24 = .ok (.ifCond .eq 39, 3) := by decide +kernel
theorem dX2_remove_27 : decode cX2_remove 27 = .ok (.aload_n 0, 1) := by decide +kernel
theorem dX2_remove_28 : decode cX2_remove 28 = .ok (.getfield 9, 3) := by decide +kernel
theorem dX2_remove_31 : decode cX2_remove 31 = .ok (.iload 5, 2) := by decide +kernel
theorem dX2_remove_33 : decode cX2_remove 33 = .ok (.iconst 1, 1) := by decide +kernel
theorem dX2_remove_34 : decode cX2_remove 34 = .ok (.iadd, 1) := by decide +kernel
theorem dX2_remove_35 : decode cX2_remove 35 = .ok (.aload_n 0, 1) := by decide +kernel
theorem dX2_remove_36 : decode cX2_remove 36 = .ok (.getfield 9, 3) := by decide +kernel
theorem dX2_remove_39 : decode cX2_remove 39 = .ok (.iload 5, 2) := by decide +kernel
theorem dX2_remove_41 : decode cX2_remove 41 = .ok (.aload_n 0, 1) := by decide +kernel
theorem dX2_remove_42 : decode cX2_remove 42 = .ok (.getfield 15, 3) := by decide +kernel
theorem dX2_remove_45 : decode cX2_remove 45 = .ok (.iload 5, 2) := by decide +kernel
theorem dX2_remove_47 : decode cX2_remove 47 = .ok (.isub, 1) := by decide +kernel
theorem dX2_remove_48 : decode cX2_remove 48 = .ok (.iconst 1, 1) := by decide +kernel
theorem dX2_remove_49 : decode cX2_remove 49 = .ok (.isub, 1) := by decide +kernel
theorem dX2_remove_50 : decode cX2_remove 50 = .ok (.invokestatic 35, 3) := by decide +kernel
theorem dX2_remove_53 : decode cX2_remove 53 = .ok (.aload_n 0, 1) := by decide +kernel
theorem dX2_remove_54 : decode cX2_remove 54 = .ok (.dup, 1) := by decide +kernel
theorem dX2_remove_55 : decode cX2_remove 55 = .ok (.getfield 15, 3) := by decide +kernel
theorem dX2_remove_58 : decode cX2_remove 58 = .ok (.iconst 1, 1) := by decide +kernel
theorem dX2_remove_59 : decode cX2_remove 59 = .ok (.isub, 1) := by decide +kernel
theorem dX2_remove_60 : decode cX2_remove 60 = .ok (.putfield 15, 3) := by decide +kernel
theorem dX2_remove_63 : decode cX2_remove 63 = .ok (.return_, 1) := by decide +kernel
theorem dX2_keyOf_0 : decode cX2_keyOf 0 = .ok (.iload_n 2, 1) := by decide +kernel
theorem dX2_keyOf_1 : decode cX2_keyOf 1 = .ok (.bipush 24, 2) := by decide +kernel
theorem dX2_keyOf_3 : decode cX2_keyOf 3 = .ok (.imul, 1) := by decide +kernel
theorem dX2_keyOf_4 : decode cX2_keyOf 4 = .ok (.iload_n 1, 1) := by decide +kernel
theorem dX2_keyOf_5 : decode cX2_keyOf 5 = .ok (.iadd, 1) := by decide +kernel
theorem dX2_keyOf_6 : decode cX2_keyOf 6 = .ok (.bipush 16, 2) := by decide +kernel
theorem dX2_keyOf_8 : decode cX2_keyOf 8 = .ok (.imul, 1) := by decide +kernel
theorem dX2_keyOf_9 : decode cX2_keyOf 9 = .ok (.iload_n 0, 1) := by decide +kernel
theorem dX2_keyOf_10 : decode cX2_keyOf 10 = .ok (.iadd, 1) := by decide +kernel
theorem dX2_keyOf_11 : decode cX2_keyOf 11 = .ok (.ireturn, 1) := by decide +kernel
theorem dX2_stands_0 : decode cX2_stands 0 = .ok (.iload_n 1, 1) := by decide +kernel
theorem dX2_stands_1 : decode cX2_stands 1 = .ok (.aload_n 0, 1) := by decide +kernel
theorem dX2_stands_2 : decode cX2_stands 2 = .ok (.getfield 15, 3) := by decide +kernel
theorem dX2_stands_5 : decode cX2_stands 5 = .ok (.if_icmp .ge 17, 3) := by decide +kernel
theorem dX2_stands_8 : decode cX2_stands 8 = .ok (.aload_n 0, 1) := by decide +kernel
theorem dX2_stands_9 : decode cX2_stands 9 = .ok (.getfield 9, 3) := by decide +kernel
theorem dX2_stands_12 : decode cX2_stands 12 = .ok (.iload_n 1, 1) := by decide +kernel
theorem dX2_stands_13 : decode cX2_stands 13 = .ok (.iaload, 1) := by decide +kernel
theorem dX2_stands_14 : decode cX2_stands 14 = .ok (.iload_n 2, 1) := by decide +kernel
theorem dX2_stands_15 : decode cX2_stands 15 = .ok (.if_icmp .ne 7, 3) := by decide +kernel
theorem dX2_stands_18 : decode cX2_stands 18 = .ok (.iconst 1, 1) := by decide +kernel
theorem dX2_stands_19 : decode cX2_stands 19 = .ok (.goto 4, 3) := by decide +kernel
theorem dX2_stands_22 : decode cX2_stands 22 = .ok (.iconst 0, 1) := by decide +kernel
theorem dX2_stands_23 : decode cX2_stands 23 = .ok (.ireturn, 1) := by decide +kernel
theorem dX2_placeOf_0 : decode cX2_placeOf 0 = .ok (.iconst 0, 1) := by decide +kernel
theorem dX2_placeOf_1 : decode cX2_placeOf 1 = .ok (.istore_n 2, 1) := by decide +kernel
theorem dX2_placeOf_2 : decode cX2_placeOf 2 = .ok (.aload_n 0, 1) := by decide +kernel
theorem dX2_placeOf_3 : decode cX2_placeOf 3 = .ok (.getfield 15, 3) := by decide +kernel
theorem dX2_placeOf_6 : decode cX2_placeOf 6 = .ok (.istore_n 3, 1) := by decide +kernel
theorem dX2_placeOf_7 : decode cX2_placeOf 7 = .ok (.iconst 0, 1) := by decide +kernel
theorem dX2_placeOf_8 : decode cX2_placeOf 8 = .ok (.istore 4, 2) := by decide +kernel
theorem dX2_placeOf_10 : decode cX2_placeOf 10 = .ok (.iload 4, 2) := by decide +kernel
theorem dX2_placeOf_12 : decode cX2_placeOf 12 = .ok (.sipush 200, 3) := by decide +kernel
theorem dX2_placeOf_15 : decode cX2_placeOf 15 = .ok (.if_icmp .ge 43, 3) := by decide +kernel
theorem dX2_placeOf_18 : decode cX2_placeOf 18 = .ok (.iload_n 2, 1) := by decide +kernel
theorem dX2_placeOf_19 : decode cX2_placeOf 19 = .ok (.iload_n 3, 1) := by decide +kernel
theorem dX2_placeOf_20 : decode cX2_placeOf 20 = .ok (.if_icmp .ge 38, 3) := by decide +kernel
theorem dX2_placeOf_23 : decode cX2_placeOf 23 = .ok (.iload_n 2, 1) := by decide +kernel
theorem dX2_placeOf_24 : decode cX2_placeOf 24 = .ok (.iload_n 3, 1) := by decide +kernel
theorem dX2_placeOf_25 : decode cX2_placeOf 25 = .ok (.iadd, 1) := by decide +kernel
theorem dX2_placeOf_26 : decode cX2_placeOf 26 = .ok (.iconst 2, 1) := by decide +kernel
theorem dX2_placeOf_27 : decode cX2_placeOf 27 = .ok (.idiv, 1) := by decide +kernel
theorem dX2_placeOf_28 : decode cX2_placeOf 28 = .ok (.istore 5, 2) := by decide +kernel
theorem dX2_placeOf_30 : decode cX2_placeOf 30 = .ok (.aload_n 0, 1) := by decide +kernel
theorem dX2_placeOf_31 : decode cX2_placeOf 31 = .ok (.getfield 9, 3) := by decide +kernel
theorem dX2_placeOf_34 : decode cX2_placeOf 34 = .ok (.iload 5, 2) := by decide +kernel
theorem dX2_placeOf_36 : decode cX2_placeOf 36 = .ok (.iaload, 1) := by decide +kernel
theorem dX2_placeOf_37 : decode cX2_placeOf 37 = .ok (.iload_n 1, 1) := by decide +kernel
theorem dX2_placeOf_38 : decode cX2_placeOf 38 = .ok (.if_icmp .ge 11, 3) := by decide +kernel
theorem dX2_placeOf_41 : decode cX2_placeOf 41 = .ok (.iload 5, 2) := by decide +kernel
theorem dX2_placeOf_43 : decode cX2_placeOf 43 = .ok (.iconst 1, 1) := by decide +kernel
theorem dX2_placeOf_44 : decode cX2_placeOf 44 = .ok (.iadd, 1) := by decide +kernel
theorem dX2_placeOf_45 : decode cX2_placeOf 45 = .ok (.istore_n 2, 1) := by decide +kernel
theorem dX2_placeOf_46 : decode cX2_placeOf 46 = .ok (.goto 6, 3) := by decide +kernel
theorem dX2_placeOf_49 : decode cX2_placeOf 49 = .ok (.iload 5, 2) := by decide +kernel
theorem dX2_placeOf_51 : decode cX2_placeOf 51 = .ok (.istore_n 3, 1) := by decide +kernel
theorem dX2_placeOf_52 : decode cX2_placeOf 52 = .ok (.iinc 4 1, 3) := by decide +kernel
theorem dX2_placeOf_55 : decode cX2_placeOf 55 = .ok (.goto (-45), 3) := by decide +kernel
theorem dX2_placeOf_58 : decode cX2_placeOf 58 = .ok (.iload_n 2, 1) := by decide +kernel
theorem dX2_placeOf_59 : decode cX2_placeOf 59 = .ok (.ireturn, 1) := by decide +kernel
theorem dX3_init_0 : decode cX3_init 0 = .ok (.aload_n 0, 1) := by decide +kernel
theorem dX3_init_1 : decode cX3_init 1 = .ok (.invokespecial 3, 3) := by decide +kernel
theorem dX3_init_4 : decode cX3_init 4 = .ok (.aload_n 0, 1) := by decide +kernel
theorem dX3_init_5 : decode cX3_init 5 = .ok (.bipush 100, 2) := by decide +kernel
theorem dX3_init_7 : decode cX3_init 7 = .ok (.newarray .int, 2) := by decide +kernel
theorem dX3_init_9 : decode cX3_init 9 = .ok (.putfield 9, 3) := by decide +kernel
theorem dX3_init_12 : decode cX3_init 12 = .ok (.aload_n 0, 1) := by decide +kernel
theorem dX3_init_13 : decode cX3_init 13 = .ok (.bipush 100, 2) := by decide +kernel
theorem dX3_init_15 : decode cX3_init 15 = .ok (.newarray .int, 2) := by decide +kernel
theorem dX3_init_17 : decode cX3_init 17 = .ok (.putfield 15, 3) := by decide +kernel
theorem dX3_init_20 : decode cX3_init 20 = .ok (.aload_n 0, 1) := by decide +kernel
theorem dX3_init_21 : decode cX3_init 21 = .ok (.bipush 100, 2) := by decide +kernel
theorem dX3_init_23 : decode cX3_init 23 = .ok (.newarray .int, 2) := by decide +kernel
theorem dX3_init_25 : decode cX3_init 25 = .ok (.putfield 18, 3) := by decide +kernel
theorem dX3_init_28 : decode cX3_init 28 = .ok (.aload_n 0, 1) := by decide +kernel
theorem dX3_init_29 : decode cX3_init 29 = .ok (.iconst 0, 1) := by decide +kernel
theorem dX3_init_30 : decode cX3_init 30 = .ok (.putfield 21, 3) := by decide +kernel
theorem dX3_init_33 : decode cX3_init 33 = .ok (.aload_n 0, 1) := by decide +kernel
theorem dX3_init_34 : decode cX3_init 34 = .ok (.iconst 0, 1) := by decide +kernel
theorem dX3_init_35 : decode cX3_init 35 = .ok (.putfield 25, 3) := by decide +kernel
theorem dX3_init_38 : decode cX3_init 38 = .ok (.return_, 1) := by decide +kernel
theorem dX3_isFull_0 : decode cX3_isFull 0 = .ok (.aload_n 0, 1) := by decide +kernel
theorem dX3_isFull_1 : decode cX3_isFull 1 = .ok (.getfield 21, 3) := by decide +kernel
theorem dX3_isFull_4 : decode cX3_isFull 4 = .ok (.bipush 100, 2) := by decide +kernel
theorem dX3_isFull_6 : decode cX3_isFull 6 = .ok (.if_icmp .lt 7, 3) := by decide +kernel
theorem dX3_isFull_9 : decode cX3_isFull 9 = .ok (.iconst 1, 1) := by decide +kernel
theorem dX3_isFull_10 : decode cX3_isFull 10 = .ok (.goto 4, 3) := by decide +kernel
theorem dX3_isFull_13 : decode cX3_isFull 13 = .ok (.iconst 0, 1) := by decide +kernel
theorem dX3_isFull_14 : decode cX3_isFull 14 = .ok (.ireturn, 1) := by decide +kernel
theorem dX3_cameInAll_0 : decode cX3_cameInAll 0 = .ok (.aload_n 0, 1) := by decide +kernel
theorem dX3_cameInAll_1 : decode cX3_cameInAll 1 = .ok (.getfield 25, 3) := by decide +kernel
theorem dX3_cameInAll_4 : decode cX3_cameInAll 4 = .ok (.ireturn, 1) := by decide +kernel
set_option maxRecDepth 20000 in
theorem ggX3_add_X3_isFull : GoodIn wsX3_add wsX3_isFull := goodIn_r _ [10, 3, 11, 12, 13, 14, 15] (by decide +kernel) (by decide +kernel)
set_option maxRecDepth 20000 in
theorem gX3_add_X3_isFull : GoodIn wsX3_add (wsV RX3 28 RX3 yX3_isFull wsX3_isFull) := goodIn_app (goodIn_of _ (by decide +kernel)) ggX3_add_X3_isFull
theorem dX3_add_0 : decode cX3_add 0 = .ok (.aload_n 0, 1) := by decide +kernel
theorem dX3_add_1 : decode cX3_add 1 = .ok (.invokevirtual 28, 3) := by decide +kernel
theorem dX3_add_4 : decode cX3_add 4 = .ok (.ifCond .eq 5, 3) := by decide +kernel
theorem dX3_add_7 : decode cX3_add 7 = .ok (.iconst (-1), 1) := by decide +kernel
theorem dX3_add_8 : decode cX3_add 8 = .ok (.ireturn, 1) := by decide +kernel
theorem dX3_add_9 : decode cX3_add 9 = .ok (.aload_n 0, 1) := by decide +kernel
theorem dX3_add_10 : decode cX3_add 10 = .ok (.getfield 25, 3) := by decide +kernel
theorem dX3_add_13 : decode cX3_add 13 = .ok (.istore_n 2, 1) := by decide +kernel
theorem dX3_add_14 : decode cX3_add 14 = .ok (.aload_n 0, 1) := by decide +kernel
theorem dX3_add_15 : decode cX3_add 15 = .ok (.getfield 9, 3) := by decide +kernel
theorem dX3_add_18 : decode cX3_add 18 = .ok (.aload_n 0, 1) := by decide +kernel
theorem dX3_add_19 : decode cX3_add 19 = .ok (.getfield 21, 3) := by decide +kernel
theorem dX3_add_22 : decode cX3_add 22 = .ok (.iload_n 2, 1) := by decide +kernel
theorem dX3_add_23 : decode cX3_add 23 = .ok (.iastore, 1) := by decide +kernel
theorem dX3_add_24 : decode cX3_add 24 = .ok (.aload_n 0, 1) := by decide +kernel
theorem dX3_add_25 : decode cX3_add 25 = .ok (.getfield 15, 3) := by decide +kernel
theorem dX3_add_28 : decode cX3_add 28 = .ok (.aload_n 0, 1) := by decide +kernel
theorem dX3_add_29 : decode cX3_add 29 = .ok (.getfield 21, 3) := by decide +kernel
theorem dX3_add_32 : decode cX3_add 32 = .ok (.iload_n 1, 1) := by decide +kernel
theorem dX3_add_33 : decode cX3_add 33 = .ok (.iastore, 1) := by decide +kernel
theorem dX3_add_34 : decode cX3_add 34 = .ok (.aload_n 0, 1) := by decide +kernel
theorem dX3_add_35 : decode cX3_add 35 = .ok (.getfield 18, 3) := by decide +kernel
theorem dX3_add_38 : decode cX3_add 38 = .ok (.aload_n 0, 1) := by decide +kernel
theorem dX3_add_39 : decode cX3_add 39 = .ok (.getfield 21, 3) := by decide +kernel
theorem dX3_add_42 : decode cX3_add 42 = .ok (.iconst 0, 1) := by decide +kernel
theorem dX3_add_43 : decode cX3_add 43 = .ok (.iastore, 1) := by decide +kernel
theorem dX3_add_44 : decode cX3_add 44 = .ok (.aload_n 0, 1) := by decide +kernel
theorem dX3_add_45 : decode cX3_add 45 = .ok (.dup, 1) := by decide +kernel
theorem dX3_add_46 : decode cX3_add 46 = .ok (.getfield 21, 3) := by decide +kernel
theorem dX3_add_49 : decode cX3_add 49 = .ok (.iconst 1, 1) := by decide +kernel
theorem dX3_add_50 : decode cX3_add 50 = .ok (.iadd, 1) := by decide +kernel
theorem dX3_add_51 : decode cX3_add 51 = .ok (.putfield 21, 3) := by decide +kernel
theorem dX3_add_54 : decode cX3_add 54 = .ok (.aload_n 0, 1) := by decide +kernel
theorem dX3_add_55 : decode cX3_add 55 = .ok (.dup, 1) := by decide +kernel
theorem dX3_add_56 : decode cX3_add 56 = .ok (.getfield 25, 3) := by decide +kernel
theorem dX3_add_59 : decode cX3_add 59 = .ok (.iconst 1, 1) := by decide +kernel
theorem dX3_add_60 : decode cX3_add 60 = .ok (.iadd, 1) := by decide +kernel
theorem dX3_add_61 : decode cX3_add 61 = .ok (.putfield 25, 3) := by decide +kernel
theorem dX3_add_64 : decode cX3_add 64 = .ok (.iload_n 2, 1) := by decide +kernel
theorem dX3_add_65 : decode cX3_add 65 = .ok (.ireturn, 1) := by decide +kernel
set_option maxRecDepth 20000 in
theorem ggX3_takeFirst_X3_foremost : GoodIn wsX3_takeFirst wsX3_foremost := goodIn_r _ [8, 1, 9, 3, 18, 19, 20, 21, 22] (by decide +kernel) (by decide +kernel)
set_option maxRecDepth 20000 in
theorem gX3_takeFirst_X3_foremost : GoodIn wsX3_takeFirst (wsV RX3 32 RX3 yX3_foremost wsX3_foremost) := goodIn_app (goodIn_of _ (by decide +kernel)) ggX3_takeFirst_X3_foremost
set_option maxRecDepth 20000 in
theorem ggX3_takeFirst_X3_drop : GoodIn wsX3_takeFirst wsX3_drop := goodIn_r _ [13, 1, 2, 14, 15, 16, 17, 9, 3, 18, 19, 20, 21, 22] (by decide +kernel) (by decide +kernel)
set_option maxRecDepth 20000 in
theorem gX3_takeFirst_X3_drop : GoodIn wsX3_takeFirst (wsV RX3 36 RX3 yX3_drop wsX3_drop) := goodIn_app (goodIn_of _ (by decide +kernel)) ggX3_takeFirst_X3_drop
theorem dX3_takeFirst_0 : decode cX3_takeFirst 0 = .ok (.aload_n 0, 1) := by decide +kernel
theorem dX3_takeFirst_1 : decode cX3_takeFirst 1 = .ok (.getfield 21, 3) := by decide +kernel
theorem dX3_takeFirst_4 : decode cX3_takeFirst 4 = .ok (.ifCond .ne 5, 3) := by decide +kernel
theorem dX3_takeFirst_7 : decode cX3_takeFirst 7 = .ok (.iconst (-1), 1) := by decide +kernel
theorem dX3_takeFirst_8 : decode cX3_takeFirst 8 = .ok (.ireturn, 1) := by decide +kernel
theorem dX3_takeFirst_9 : decode cX3_takeFirst 9 = .ok (.aload_n 0, 1) := by decide +kernel
theorem dX3_takeFirst_10 : decode cX3_takeFirst 10 = .ok (.invokevirtual 32, 3) := by decide +kernel
theorem dX3_takeFirst_13 : decode cX3_takeFirst 13 = .ok (.istore_n 1, 1) := by decide +kernel
theorem dX3_takeFirst_14 : decode cX3_takeFirst 14 = .ok (.aload_n 0, 1) := by decide +kernel
theorem dX3_takeFirst_15 : decode cX3_takeFirst 15 = .ok (.getfield 9, 3) := by decide +kernel
theorem dX3_takeFirst_18 : decode cX3_takeFirst 18 = .ok (.iload_n 1, 1) := by decide +kernel
theorem dX3_takeFirst_19 : decode cX3_takeFirst 19 = .ok (.iaload, 1) := by decide +kernel
theorem dX3_takeFirst_20 : decode cX3_takeFirst 20 = .ok (.istore_n 2, 1) := by decide +kernel
theorem dX3_takeFirst_21 : decode cX3_takeFirst 21 = .ok (.aload_n 0, 1) := by decide +kernel
theorem dX3_takeFirst_22 : decode cX3_takeFirst 22 = .ok (.iload_n 1, 1) := by decide +kernel
theorem dX3_takeFirst_23 : decode cX3_takeFirst 23 = .ok (.invokevirtual 36, 3) := by decide +kernel
theorem dX3_takeFirst_26 : decode cX3_takeFirst 26 = .ok (.iconst 0, 1) := by decide +kernel
theorem dX3_takeFirst_27 : decode cX3_takeFirst 27 = .ok (.istore_n 3, 1) := by decide +kernel
theorem dX3_takeFirst_28 : decode cX3_takeFirst 28 = .ok (.iload_n 3, 1) := by decide +kernel
theorem dX3_takeFirst_29 : decode cX3_takeFirst 29 = .ok (.aload_n 0, 1) := by decide +kernel
theorem dX3_takeFirst_30 : decode cX3_takeFirst 30 = .ok (.getfield 21, 3) := by decide +kernel
theorem dX3_takeFirst_33 : decode cX3_takeFirst 33 = .ok (.if_icmp .ge 19, 3) := by decide +kernel
theorem dX3_takeFirst_36 : decode cX3_takeFirst 36 = .ok (.aload_n 0, 1) := by decide +kernel
theorem dX3_takeFirst_37 : decode cX3_takeFirst 37 = .ok (.getfield 18, 3) := by decide +kernel
theorem dX3_takeFirst_40 : decode cX3_takeFirst 40 = .ok (.iload_n 3, 1) := by decide +kernel
theorem dX3_takeFirst_41 : decode cX3_takeFirst 41 = .ok (.dup2, 1) := by decide +kernel
theorem dX3_takeFirst_42 : decode cX3_takeFirst 42 = .ok (.iaload, 1) := by decide +kernel
theorem dX3_takeFirst_43 : decode cX3_takeFirst 43 = .ok (.iconst 1, 1) := by decide +kernel
theorem dX3_takeFirst_44 : decode cX3_takeFirst 44 = .ok (.iadd, 1) := by decide +kernel
theorem dX3_takeFirst_45 : decode cX3_takeFirst 45 = .ok (.iastore, 1) := by decide +kernel
theorem dX3_takeFirst_46 : decode cX3_takeFirst 46 = .ok (.iinc 3 1, 3) := by decide +kernel
theorem dX3_takeFirst_49 : decode cX3_takeFirst 49 = .ok (.goto (-21), 3) := by decide +kernel
theorem dX3_takeFirst_52 : decode cX3_takeFirst 52 = .ok (.iload_n 2, 1) := by decide +kernel
theorem dX3_takeFirst_53 : decode cX3_takeFirst 53 = .ok (.ireturn, 1) := by decide +kernel
theorem dX3_ageOf_0 : decode cX3_ageOf 0 = .ok (.iconst 0, 1) := by decide +kernel
theorem dX3_ageOf_1 : decode cX3_ageOf 1 = .ok (.istore_n 2, 1) := by decide +kernel
theorem dX3_ageOf_2 : decode cX3_ageOf 2 = .ok (.iload_n 2, 1) := by decide +kernel
theorem dX3_ageOf_3 : decode cX3_ageOf 3 = .ok (.aload_n 0, 1) := by decide +kernel
theorem dX3_ageOf_4 : decode cX3_ageOf 4 = .ok (.getfield 21, 3) := by decide +kernel
theorem dX3_ageOf_7 : decode cX3_ageOf 7 = .ok (.if_icmp .ge 26, 3) := by decide +kernel
theorem dX3_ageOf_10 : decode cX3_ageOf 10 = .ok (.aload_n 0, 1) := by decide +kernel
theorem dX3_ageOf_11 : decode cX3_ageOf 11 = .ok (.getfield 9, 3) := by decide +kernel
theorem dX3_ageOf_14 : decode cX3_ageOf 14 = .ok (.iload_n 2, 1) := by decide +kernel
theorem dX3_ageOf_15 : decode cX3_ageOf 15 = .ok (.iaload, 1) := by decide +kernel
theorem dX3_ageOf_16 : decode cX3_ageOf 16 = .ok (.iload_n 1, 1) := by decide +kernel
theorem dX3_ageOf_17 : decode cX3_ageOf 17 = .ok (.if_icmp .ne 10, 3) := by decide +kernel
theorem dX3_ageOf_20 : decode cX3_ageOf 20 = .ok (.aload_n 0, 1) := by decide +kernel
theorem dX3_ageOf_21 : decode cX3_ageOf 21 = .ok (.getfield 18, 3) := by decide +kernel
theorem dX3_ageOf_24 : decode cX3_ageOf 24 = .ok (.iload_n 2, 1) := by decide +kernel
theorem dX3_ageOf_25 : decode cX3_ageOf 25 = .ok (.iaload, 1) := by decide +kernel
theorem dX3_ageOf_26 : decode cX3_ageOf 26 = .ok (.ireturn, 1) := by decide +kernel
theorem dX3_ageOf_27 : decode cX3_ageOf 27 = .ok (.iinc 2 1, 3) := by decide +kernel
theorem dX3_ageOf_30 : decode cX3_ageOf 30 = .ok (.goto (-28), 3) := by decide +kernel
theorem dX3_ageOf_33 : decode cX3_ageOf 33 = .ok (.iconst (-1), 1) := by decide +kernel
theorem dX3_ageOf_34 : decode cX3_ageOf 34 = .ok (.ireturn, 1) := by decide +kernel
theorem dX3_foremost_0 : decode cX3_foremost 0 = .ok (.iconst 0, 1) := by decide +kernel
theorem dX3_foremost_1 : decode cX3_foremost 1 = .ok (.istore_n 1, 1) := by decide +kernel
theorem dX3_foremost_2 : decode cX3_foremost 2 = .ok (.iconst 1, 1) := by decide +kernel
theorem dX3_foremost_3 : decode cX3_foremost 3 = .ok (.istore_n 2, 1) := by decide +kernel
theorem dX3_foremost_4 : decode cX3_foremost 4 = .ok (.iload_n 2, 1) := by decide +kernel
theorem dX3_foremost_5 : decode cX3_foremost 5 = .ok (.aload_n 0, 1) := by decide +kernel
theorem dX3_foremost_6 : decode cX3_foremost 6 = .ok (.getfield 21, 3) := by decide +kernel
theorem dX3_foremost_9 : decode cX3_foremost 9 = .ok (.if_icmp .ge 40, 3) := by decide +kernel
theorem dX3_foremost_12 : decode cX3_foremost 12 = .ok (.aload_n 0, 1) := by decide +kernel
theorem dX3_foremost_13 : decode cX3_foremost 13 = .ok (.getfield 15, 3) := by decide +kernel
theorem dX3_foremost_16 : decode cX3_foremost 16 = .ok (.iload_n 2, 1) := by decide +kernel
theorem dX3_foremost_17 : decode cX3_foremost 17 = .ok (.iaload, 1) := by decide +kernel
theorem dX3_foremost_18 : decode cX3_foremost 18 = .ok (.aload_n 0, 1) := by decide +kernel
theorem dX3_foremost_19 : decode cX3_foremost 19 = .ok (.getfield 18, 3) := by decide +kernel
theorem dX3_foremost_22 : decode cX3_foremost 22 = .ok (.iload_n 2, 1) := by decide +kernel
theorem dX3_foremost_23 : decode cX3_foremost 23 = .ok (.iaload, 1) := by decide +kernel
theorem dX3_foremost_24 : decode cX3_foremost 24 = .ok (.iadd, 1) := by decide +kernel
theorem dX3_foremost_25 : decode cX3_foremost 25 = .ok (.aload_n 0, 1) := by decide +kernel
theorem dX3_foremost_26 : decode cX3_foremost 26 = .ok (.getfield 15, 3) := by decide +kernel
theorem dX3_foremost_29 : decode cX3_foremost 29 = .ok (.iload_n 1, 1) := by decide +kernel
theorem dX3_foremost_30 : decode cX3_foremost 30 = .ok (.iaload, 1) := by decide +kernel
theorem dX3_foremost_31 : decode cX3_foremost 31 = .ok (.aload_n 0, 1) := by decide +kernel
theorem dX3_foremost_32 : decode cX3_foremost 32 = .ok (.getfield 18, 3) := by decide +kernel
theorem dX3_foremost_35 : decode cX3_foremost 35 = .ok (.iload_n 1, 1) := by decide +kernel
theorem dX3_foremost_36 : decode cX3_foremost 36 = .ok (.iaload, 1) := by decide +kernel
theorem dX3_foremost_37 : decode cX3_foremost 37 = .ok (.iadd, 1) := by decide +kernel
theorem dX3_foremost_38 : decode cX3_foremost 38 = .ok (.if_icmp .le 5, 3) := by decide +kernel
theorem dX3_foremost_41 : decode cX3_foremost 41 = .ok (.iload_n 2, 1) := by decide +kernel
theorem dX3_foremost_42 : decode cX3_foremost 42 = .ok (.istore_n 1, 1) := by decide +kernel
theorem dX3_foremost_43 : decode cX3_foremost 43 = .ok (.iinc 2 1, 3) := by decide +kernel
theorem dX3_foremost_46 : decode cX3_foremost 46 = .ok (.goto (-42), 3) := by decide +kernel
theorem dX3_foremost_49 : decode cX3_foremost 49 = .ok (.iload_n 1, 1) := by decide +kernel
theorem dX3_foremost_50 : decode cX3_foremost 50 = .ok (.ireturn, 1) := by decide +kernel
theorem dX3_drop_0 : decode cX3_drop 0 = .ok (.aload_n 0, 1) := by decide +kernel
theorem dX3_drop_1 : decode cX3_drop 1 = .ok (.getfield 21, 3) := by decide +kernel
theorem dX3_drop_4 : decode cX3_drop 4 = .ok (.iload_n 1, 1) := by decide +kernel
theorem dX3_drop_5 : decode cX3_drop 5 = .ok (.isub, 1) := by decide +kernel
theorem dX3_drop_6 : decode cX3_drop 6 = .ok (.iconst 1, 1) := by decide +kernel
theorem dX3_drop_7 : decode cX3_drop 7 = .ok (.isub, 1) := by decide +kernel
theorem dX3_drop_8 : decode cX3_drop 8 = .ok (.istore_n 2, 1) := by decide +kernel
theorem dX3_drop_9 : decode cX3_drop 9 = .ok (.aload_n 0, 1) := by decide +kernel
theorem dX3_drop_10 : decode cX3_drop 10 = .ok (.getfield 9, 3) := by decide +kernel
theorem dX3_drop_13 : decode cX3_drop 13 = .ok (.iload_n 1, 1) := by decide +kernel
theorem dX3_drop_14 : decode cX3_drop 14 = .ok (.iconst 1, 1) := by decide +kernel
theorem dX3_drop_15 : decode cX3_drop 15 = .ok (.iadd, 1) := by decide +kernel
theorem dX3_drop_16 : decode cX3_drop 16 = .ok (.aload_n 0, 1) := by decide +kernel
theorem dX3_drop_17 : decode cX3_drop 17 = .ok (.getfield 9, 3) := by decide +kernel
theorem dX3_drop_20 : decode cX3_drop 20 = .ok (.iload_n 1, 1) := by decide +kernel
theorem dX3_drop_21 : decode cX3_drop 21 = .ok (.iload_n 2, 1) := by decide +kernel
theorem dX3_drop_22 : decode cX3_drop 22 = .ok (.invokestatic 40, 3) := by decide +kernel
theorem dX3_drop_25 : decode cX3_drop 25 = .ok (.aload_n 0, 1) := by decide +kernel
theorem dX3_drop_26 : decode cX3_drop 26 = .ok (.getfield 15, 3) := by decide +kernel
theorem dX3_drop_29 : decode cX3_drop 29 = .ok (.iload_n 1, 1) := by decide +kernel
theorem dX3_drop_30 : decode cX3_drop 30 = .ok (.iconst 1, 1) := by decide +kernel
theorem dX3_drop_31 : decode cX3_drop 31 = .ok (.iadd, 1) := by decide +kernel
theorem dX3_drop_32 : decode cX3_drop 32 = .ok (.aload_n 0, 1) := by decide +kernel
theorem dX3_drop_33 : decode cX3_drop 33 = .ok (.getfield 15, 3) := by decide +kernel
theorem dX3_drop_36 : decode cX3_drop 36 = .ok (.iload_n 1, 1) := by decide +kernel
theorem dX3_drop_37 : decode cX3_drop 37 = .ok (.iload_n 2, 1) := by decide +kernel
theorem dX3_drop_38 : decode cX3_drop 38 = .ok (.invokestatic 40, 3) := by decide +kernel
theorem dX3_drop_41 : decode cX3_drop 41 = .ok (.aload_n 0, 1) := by decide +kernel
theorem dX3_drop_42 : decode cX3_drop 42 = .ok (.getfield 18, 3) := by decide +kernel
theorem dX3_drop_45 : decode cX3_drop 45 = .ok (.iload_n 1, 1) := by decide +kernel
theorem dX3_drop_46 : decode cX3_drop 46 = .ok (.iconst 1, 1) := by decide +kernel
theorem dX3_drop_47 : decode cX3_drop 47 = .ok (.iadd, 1) := by decide +kernel
theorem dX3_drop_48 : decode cX3_drop 48 = .ok (.aload_n 0, 1) := by decide +kernel
theorem dX3_drop_49 : decode cX3_drop 49 = .ok (.getfield 18, 3) := by decide +kernel
theorem dX3_drop_52 : decode cX3_drop 52 = .ok (.iload_n 1, 1) := by decide +kernel
theorem dX3_drop_53 : decode cX3_drop 53 = .ok (.iload_n 2, 1) := by decide +kernel
theorem dX3_drop_54 : decode cX3_drop 54 = .ok (.invokestatic 40, 3) := by decide +kernel
theorem dX3_drop_57 : decode cX3_drop 57 = .ok (.aload_n 0, 1) := by decide +kernel
theorem dX3_drop_58 : decode cX3_drop 58 = .ok (.dup, 1) := by decide +kernel
theorem dX3_drop_59 : decode cX3_drop 59 = .ok (.getfield 21, 3) := by decide +kernel
theorem dX3_drop_62 : decode cX3_drop 62 = .ok (.iconst 1, 1) := by decide +kernel
theorem dX3_drop_63 : decode cX3_drop 63 = .ok (.isub, 1) := by decide +kernel
theorem dX3_drop_64 : decode cX3_drop 64 = .ok (.putfield 21, 3) := by decide +kernel
theorem dX3_drop_67 : decode cX3_drop 67 = .ok (.return_, 1) := by decide +kernel
theorem dX4_init_0 : decode cX4_init 0 = .ok (.aload_n 0, 1) := by decide +kernel
theorem dX4_init_1 : decode cX4_init 1 = .ok (.invokespecial 3, 3) := by decide +kernel
theorem dX4_init_4 : decode cX4_init 4 = .ok (.aload_n 0, 1) := by decide +kernel
theorem dX4_init_5 : decode cX4_init 5 = .ok (.iload_n 1, 1) := by decide +kernel
theorem dX4_init_6 : decode cX4_init 6 = .ok (.putfield 9, 3) := by decide +kernel
theorem dX4_init_9 : decode cX4_init 9 = .ok (.aload_n 0, 1) := by decide +kernel
theorem dX4_init_10 : decode cX4_init 10 = .ok (.iload_n 1, 1) := by decide +kernel
theorem dX4_init_11 : decode cX4_init 11 = .ok (.newarray .int, 2) := by decide +kernel
theorem dX4_init_13 : decode cX4_init 13 = .ok (.putfield 15, 3) := by decide +kernel
theorem dX4_init_16 : decode cX4_init 16 = .ok (.aload_n 0, 1) := by decide +kernel
theorem dX4_init_17 : decode cX4_init 17 = .ok (.iload_n 1, 1) := by decide +kernel
theorem dX4_init_18 : decode cX4_init 18 = .ok (.newarray .int, 2) := by decide +kernel
theorem dX4_init_20 : decode cX4_init 20 = .ok (.putfield 19, 3) := by decide +kernel
theorem dX4_init_23 : decode cX4_init 23 = .ok (.aload_n 0, 1) := by decide +kernel
theorem dX4_init_24 : decode cX4_init 24 = .ok (.iload_n 1, 1) := by decide +kernel
theorem dX4_init_25 : decode cX4_init 25 = .ok (.newarray .int, 2) := by decide +kernel
theorem dX4_init_27 : decode cX4_init 27 = .ok (.putfield 22, 3) := by decide +kernel
theorem dX4_init_30 : decode cX4_init 30 = .ok (.aload_n 0, 1) := by decide +kernel
theorem dX4_init_31 : decode cX4_init 31 = .ok (.iload_n 1, 1) := by decide +kernel
theorem dX4_init_32 : decode cX4_init 32 = .ok (.iload_n 1, 1) := by decide +kernel
theorem dX4_init_33 : decode cX4_init 33 = .ok (.imul, 1) := by decide +kernel
theorem dX4_init_34 : decode cX4_init 34 = .ok (.newarray .int, 2) := by decide +kernel
theorem dX4_init_36 : decode cX4_init 36 = .ok (.putfield 25, 3) := by decide +kernel
theorem dX4_init_39 : decode cX4_init 39 = .ok (.aload_n 0, 1) := by decide +kernel
theorem dX4_init_40 : decode cX4_init 40 = .ok (.iload_n 1, 1) := by decide +kernel
theorem dX4_init_41 : decode cX4_init 41 = .ok (.newarray .int, 2) := by decide +kernel
theorem dX4_init_43 : decode cX4_init 43 = .ok (.putfield 28, 3) := by decide +kernel
theorem dX4_init_46 : decode cX4_init 46 = .ok (.aload_n 0, 1) := by decide +kernel
theorem dX4_init_47 : decode cX4_init 47 = .ok (.iconst 1, 1) := by decide +kernel
theorem dX4_init_48 : decode cX4_init 48 = .ok (.putfield 31, 3) := by decide +kernel
theorem dX4_init_51 : decode cX4_init 51 = .ok (.return_, 1) := by decide +kernel
theorem dX4_size_0 : decode cX4_size 0 = .ok (.aload_n 0, 1) := by decide +kernel
theorem dX4_size_1 : decode cX4_size 1 = .ok (.getfield 9, 3) := by decide +kernel
theorem dX4_size_4 : decode cX4_size 4 = .ok (.ireturn, 1) := by decide +kernel
theorem dX4_valueOf_0 : decode cX4_valueOf 0 = .ok (.aload_n 0, 1) := by decide +kernel
theorem dX4_valueOf_1 : decode cX4_valueOf 1 = .ok (.getfield 15, 3) := by decide +kernel
theorem dX4_valueOf_4 : decode cX4_valueOf 4 = .ok (.iload_n 1, 1) := by decide +kernel
theorem dX4_valueOf_5 : decode cX4_valueOf 5 = .ok (.iaload, 1) := by decide +kernel
theorem dX4_valueOf_6 : decode cX4_valueOf 6 = .ok (.ireturn, 1) := by decide +kernel
theorem dX4_put_0 : decode cX4_put 0 = .ok (.aload_n 0, 1) := by decide +kernel
theorem dX4_put_1 : decode cX4_put 1 = .ok (.getfield 15, 3) := by decide +kernel
theorem dX4_put_4 : decode cX4_put 4 = .ok (.iload_n 1, 1) := by decide +kernel
theorem dX4_put_5 : decode cX4_put 5 = .ok (.iload_n 2, 1) := by decide +kernel
theorem dX4_put_6 : decode cX4_put 6 = .ok (.iastore, 1) := by decide +kernel
theorem dX4_put_7 : decode cX4_put 7 = .ok (.return_, 1) := by decide +kernel
theorem dX4_shareBetween_0 : decode cX4_shareBetween 0 = .ok (.aload_n 0, 1) := by decide +kernel
theorem dX4_shareBetween_1 : decode cX4_shareBetween 1 = .ok (.getfield 25, 3) := by decide +kernel
theorem dX4_shareBetween_4 : decode cX4_shareBetween 4 = .ok (.iload_n 1, 1) := by decide +kernel
theorem dX4_shareBetween_5 : decode cX4_shareBetween 5 = .ok (.aload_n 0, 1) := by decide +kernel
theorem dX4_shareBetween_6 : decode cX4_shareBetween 6 = .ok (.getfield 9, 3) := by decide +kernel
theorem dX4_shareBetween_9 : decode cX4_shareBetween 9 = .ok (.imul, 1) := by decide +kernel
theorem dX4_shareBetween_10 : decode cX4_shareBetween 10 = .ok (.iload_n 2, 1) := by decide +kernel
theorem dX4_shareBetween_11 : decode cX4_shareBetween 11 = .ok (.iadd, 1) := by decide +kernel
theorem dX4_shareBetween_12 : decode cX4_shareBetween 12 = .ok (.iaload, 1) := by decide +kernel
theorem dX4_shareBetween_13 : decode cX4_shareBetween 13 = .ok (.ireturn, 1) := by decide +kernel
set_option maxRecDepth 20000 in
theorem ggX4_build_X4_paint : GoodIn wsX4_build wsX4_paint := goodIn_r _ [7, 8, 2, 9, 10, 11, 12, 13, 14, 15, 16, 6, 17, 18, 19, 20, 21, 1, 22, 23, 24, 25, 26, 27, 28] (by decide +kernel) (by decide +kernel)
set_option maxRecDepth 20000 in
theorem gX4_build_X4_paint : GoodIn wsX4_build (wsV RX4 34 RX4 yX4_paint wsX4_paint) := goodIn_app (goodIn_of _ (by decide +kernel)) ggX4_build_X4_paint
theorem dX4_build_0 : decode cX4_build 0 = .ok (.aload_n 0, 1) := by decide +kernel
theorem dX4_build_1 : decode cX4_build 1 = .ok (.getfield 25, 3) := by decide +kernel
theorem dX4_build_4 : decode cX4_build 4 = .ok (.iload_n 1, 1) := by decide +kernel
theorem dX4_build_5 : decode cX4_build 5 = .ok (.aload_n 0, 1) := by decide +kernel
theorem dX4_build_6 : decode cX4_build 6 = .ok (.getfield 9, 3) := by decide +kernel
theorem dX4_build_9 : decode cX4_build 9 = .ok (.imul, 1) := by decide +kernel
theorem dX4_build_10 : decode cX4_build 10 = .ok (.iload_n 2, 1) := by decide +kernel
theorem dX4_build_11 : decode cX4_build 11 = .ok (.iadd, 1) := by decide +kernel
theorem dX4_build_12 : decode cX4_build 12 = .ok (.iload_n 3, 1) := by decide +kernel
theorem dX4_build_13 : decode cX4_build 13 = .ok (.iastore, 1) := by decide +kernel
theorem dX4_build_14 : decode cX4_build 14 = .ok (.aload_n 0, 1) := by decide +kernel
theorem dX4_build_15 : decode cX4_build 15 = .ok (.getfield 25, 3) := by decide +kernel
theorem dX4_build_18 : decode cX4_build 18 = .ok (.iload_n 2, 1) := by decide +kernel
theorem dX4_build_19 : decode cX4_build 19 = .ok (.aload_n 0, 1) := by decide +kernel
theorem dX4_build_20 : decode cX4_build 20 = .ok (.getfield 9, 3) := by decide +kernel
theorem dX4_build_23 : decode cX4_build 23 = .ok (.imul, 1) := by decide +kernel
theorem dX4_build_24 : decode cX4_build 24 = .ok (.iload_n 1, 1) := by decide +kernel
theorem dX4_build_25 : decode cX4_build 25 = .ok (.iadd, 1) := by decide +kernel
theorem dX4_build_26 : decode cX4_build 26 = .ok (.iload_n 3, 1) := by decide +kernel
theorem dX4_build_27 : decode cX4_build 27 = .ok (.iastore, 1) := by decide +kernel
theorem dX4_build_28 : decode cX4_build 28 = .ok (.aload_n 0, 1) := by decide +kernel
theorem dX4_build_29 : decode cX4_build 29 = .ok (.invokevirtual 34, 3) := by decide +kernel
theorem dX4_build_32 : decode cX4_build 32 = .ok (.return_, 1) := by decide +kernel
theorem dX4_colourCount_0 : decode cX4_colourCount 0 = .ok (.aload_n 0, 1) := by decide +kernel
theorem dX4_colourCount_1 : decode cX4_colourCount 1 = .ok (.getfield 31, 3) := by decide +kernel
theorem dX4_colourCount_4 : decode cX4_colourCount 4 = .ok (.ireturn, 1) := by decide +kernel
theorem dX4_colourOf_0 : decode cX4_colourOf 0 = .ok (.aload_n 0, 1) := by decide +kernel
theorem dX4_colourOf_1 : decode cX4_colourOf 1 = .ok (.getfield 28, 3) := by decide +kernel
theorem dX4_colourOf_4 : decode cX4_colourOf 4 = .ok (.iload_n 1, 1) := by decide +kernel
theorem dX4_colourOf_5 : decode cX4_colourOf 5 = .ok (.iaload, 1) := by decide +kernel
theorem dX4_colourOf_6 : decode cX4_colourOf 6 = .ok (.ireturn, 1) := by decide +kernel
theorem dX4_remember_0 : decode cX4_remember 0 = .ok (.aload_n 0, 1) := by decide +kernel
theorem dX4_remember_1 : decode cX4_remember 1 = .ok (.getfield 15, 3) := by decide +kernel
theorem dX4_remember_4 : decode cX4_remember 4 = .ok (.iconst 0, 1) := by decide +kernel
theorem dX4_remember_5 : decode cX4_remember 5 = .ok (.aload_n 0, 1) := by decide +kernel
theorem dX4_remember_6 : decode cX4_remember 6 = .ok (.getfield 19, 3) := by decide +kernel
theorem dX4_remember_9 : decode cX4_remember 9 = .ok (.iconst 0, 1) := by decide +kernel
theorem dX4_remember_10 : decode cX4_remember 10 = .ok (.aload_n 0, 1) := by decide +kernel
theorem dX4_remember_11 : decode cX4_remember 11 = .ok (.getfield 9, 3) := by decide +kernel
theorem dX4_remember_14 : decode cX4_remember 14 = .ok (.invokestatic 37, 3) := by decide +kernel
theorem dX4_remember_17 : decode cX4_remember 17 = .ok (.return_, 1) := by decide +kernel
theorem dX4_recall_0 : decode cX4_recall 0 = .ok (.aload_n 0, 1) := by decide +kernel
theorem dX4_recall_1 : decode cX4_recall 1 = .ok (.getfield 19, 3) := by decide +kernel
theorem dX4_recall_4 : decode cX4_recall 4 = .ok (.iconst 0, 1) := by decide +kernel
theorem dX4_recall_5 : decode cX4_recall 5 = .ok (.aload_n 0, 1) := by decide +kernel
theorem dX4_recall_6 : decode cX4_recall 6 = .ok (.getfield 15, 3) := by decide +kernel
theorem dX4_recall_9 : decode cX4_recall 9 = .ok (.iconst 0, 1) := by decide +kernel
theorem dX4_recall_10 : decode cX4_recall 10 = .ok (.aload_n 0, 1) := by decide +kernel
theorem dX4_recall_11 : decode cX4_recall 11 = .ok (.getfield 9, 3) := by decide +kernel
theorem dX4_recall_14 : decode cX4_recall 14 = .ok (.invokestatic 37, 3) := by decide +kernel
theorem dX4_recall_17 : decode cX4_recall 17 = .ok (.return_, 1) := by decide +kernel
set_option maxRecDepth 20000 in
theorem ggX4_change_X4_changed : GoodIn wsX4_change wsX4_changed := goodIn_r _ [6, 7, 8, 9, 10, 11, 5, 12, 13, 14, 15, 16, 17, 18, 19, 20, 21, 22, 23, 24, 25, 26, 27, 28, 29, 30, 31, 32] (by decide +kernel) (by decide +kernel)
set_option maxRecDepth 20000 in
theorem gX4_change_X4_changed : GoodIn wsX4_change (wsV RX4 43 RX4 yX4_changed wsX4_changed) := goodIn_app (goodIn_of _ (by decide +kernel)) ggX4_change_X4_changed
theorem dX4_change_0 : decode cX4_change 0 = .ok (.aload_n 0, 1) := by decide +kernel
theorem dX4_change_1 : decode cX4_change 1 = .ok (.getfield 15, 3) := by decide +kernel
theorem dX4_change_4 : decode cX4_change 4 = .ok (.iload_n 1, 1) := by decide +kernel
theorem dX4_change_5 : decode cX4_change 5 = .ok (.aload_n 0, 1) := by decide +kernel
theorem dX4_change_6 : decode cX4_change 6 = .ok (.aload_n 0, 1) := by decide +kernel
theorem dX4_change_7 : decode cX4_change 7 = .ok (.getfield 15, 3) := by decide +kernel
theorem dX4_change_10 : decode cX4_change 10 = .ok (.iload_n 1, 1) := by decide +kernel
theorem dX4_change_11 : decode cX4_change 11 = .ok (.invokevirtual 43, 3) := by decide +kernel
theorem dX4_change_14 : decode cX4_change 14 = .ok (.iastore, 1) := by decide +kernel
theorem dX4_change_15 : decode cX4_change 15 = .ok (.return_, 1) := by decide +kernel
set_option maxRecDepth 20000 in
theorem ggX4_total_X4_treeSum : GoodIn wsX4_total wsX4_treeSum := goodIn_r _ [6, 3, 4, 5, 7, 8, 9, 10, 11, 12, 13, 14, 15, 16, 17, 18] (by decide +kernel) (by decide +kernel)
set_option maxRecDepth 20000 in
theorem gX4_total_X4_treeSum : GoodIn wsX4_total (va_wsS RX4 47 yX4_treeSum wsX4_treeSum) := goodIn_app (goodIn_of _ (by decide +kernel)) ggX4_total_X4_treeSum
theorem dX4_total_0 : decode cX4_total 0 = .ok (.aload_n 0, 1) := by decide +kernel
theorem dX4_total_1 : decode cX4_total 1 = .ok (.getfield 15, 3) := by decide +kernel
theorem dX4_total_4 : decode cX4_total 4 = .ok (.iconst 0, 1) := by decide +kernel
theorem dX4_total_5 : decode cX4_total 5 = .ok (.aload_n 0, 1) := by decide +kernel
theorem dX4_total_6 : decode cX4_total 6 = .ok (.getfield 9, 3) := by decide +kernel
theorem dX4_total_9 : decode cX4_total 9 = .ok (.iconst 0, 1) := by decide +kernel
theorem dX4_total_10 : decode cX4_total 10 = .ok (.invokestatic 47, 3) := by decide +kernel
theorem dX4_total_13 : decode cX4_total 13 = .ok (.ireturn, 1) := by decide +kernel
set_option maxRecDepth 20000 in
theorem ggX4_valueAfter_X4_tryStage : GoodIn wsX4_valueAfter wsX4_tryStage := goodIn_r _ [13, 3, 14, 2, 15, 16, 17, 12, 18, 19, 20, 21, 22, 23, 24, 25, 26, 27, 28, 29, 30, 31, 32, 33, 34, 35, 36, 37, 38, 39, 40, 41, 42, 43] (by decide +kernel) (by decide +kernel)
set_option maxRecDepth 20000 in
theorem gX4_valueAfter_X4_tryStage : GoodIn wsX4_valueAfter (wsV RX4 51 RX4 yX4_tryStage wsX4_tryStage) := goodIn_app (goodIn_of _ (by decide +kernel)) ggX4_valueAfter_X4_tryStage
theorem dX4_valueAfter_0 : decode cX4_valueAfter 0 = .ok (.aload_n 0, 1) := by decide +kernel
theorem dX4_valueAfter_1 : decode cX4_valueAfter 1 = .ok (.getfield 15, 3) := by decide +kernel
theorem dX4_valueAfter_4 : decode cX4_valueAfter 4 = .ok (.iconst 0, 1) := by decide +kernel
theorem dX4_valueAfter_5 : decode cX4_valueAfter 5 = .ok (.aload_n 0, 1) := by decide +kernel
theorem dX4_valueAfter_6 : decode cX4_valueAfter 6 = .ok (.getfield 22, 3) := by decide +kernel
theorem dX4_valueAfter_9 : decode cX4_valueAfter 9 = .ok (.iconst 0, 1) := by decide +kernel
theorem dX4_valueAfter_10 : decode cX4_valueAfter 10 = .ok (.aload_n 0, 1) := by decide +kernel
theorem dX4_valueAfter_11 : decode cX4_valueAfter 11 = .ok (.getfield 9, 3) := by decide +kernel
theorem dX4_valueAfter_14 : decode cX4_valueAfter 14 = .ok (.invokestatic 37, 3) := by decide +kernel
theorem dX4_valueAfter_17 : decode cX4_valueAfter 17 = .ok (.iconst 0, 1) := by decide +kernel
theorem dX4_valueAfter_18 : decode cX4_valueAfter 18 = .ok (.istore_n 3, 1) := by decide +kernel
theorem dX4_valueAfter_19 : decode cX4_valueAfter 19 = .ok (.iload_n 3, 1) := by decide +kernel
theorem dX4_valueAfter_20 : decode cX4_valueAfter 20 = .ok (.iload_n 2, 1) := by decide +kernel
theorem dX4_valueAfter_21 : decode cX4_valueAfter 21 = .ok (.if_icmp .ge 33, 3) := by decide +kernel
theorem dX4_valueAfter_24 : decode cX4_valueAfter 24 = .ok (.iconst 0, 1) := by decide +kernel
theorem dX4_valueAfter_25 : decode cX4_valueAfter 25 = .ok (.istore 4, 2) := by decide +kernel
theorem dX4_valueAfter_27 : decode cX4_valueAfter 27 = .ok (.iload 4, 2) := by decide +kernel
theorem dX4_valueAfter_29 : decode cX4_valueAfter 29 = .ok (.aload_n 0, 1) := by decide +kernel
theorem dX4_valueAfter_30 : decode cX4_valueAfter 30 = .ok (.getfield 31, 3) := by decide +kernel
theorem dX4_valueAfter_33 : decode cX4_valueAfter 33 = .ok (.if_icmp .ge 15, 3) := by decide +kernel
theorem dX4_valueAfter_36 : decode cX4_valueAfter 36 = .ok (.aload_n 0, 1) := by decide +kernel
theorem dX4_valueAfter_37 : decode cX4_valueAfter 37 = .ok (.iload 4, 2) := by decide +kernel
theorem dX4_valueAfter_39 : decode cX4_valueAfter 39 = .ok (.invokevirtual 51, 3) := by decide +kernel
theorem dX4_valueAfter_42 : decode cX4_valueAfter 42 = .ok (.iinc 4 1, 3) := by decide +kernel
theorem dX4_valueAfter_45 : decode cX4_valueAfter 45 = .ok (.goto (-18), 3) := by decide +kernel
theorem dX4_valueAfter_48 : decode cX4_valueAfter 48 = .ok (.iinc 3 1, 3) := by decide +kernel
theorem dX4_valueAfter_51 : decode cX4_valueAfter 51 = .ok (.goto (-32), 3) := by decide +kernel
theorem dX4_valueAfter_54 : decode cX4_valueAfter 54 = .ok (.aload_n 0, 1) := by decide +kernel
theorem dX4_valueAfter_55 : decode cX4_valueAfter 55 = .ok (.getfield 22, 3) := by decide +kernel
theorem dX4_valueAfter_58 : decode cX4_valueAfter 58 = .ok (.iload_n 1, 1) := by decide +kernel
theorem dX4_valueAfter_59 : decode cX4_valueAfter 59 = .ok (.iaload, 1) := by decide +kernel
theorem dX4_valueAfter_60 : decode cX4_valueAfter 60 = .ok (.ireturn, 1) := by decide +kernel
set_option maxRecDepth 20000 in
theorem ggX4_tryStage_X4_changed : GoodIn wsX4_tryStage wsX4_changed := goodIn_r _ [8, 1, 9, 10, 11, 12, 7, 13, 14, 15, 16, 17, 18, 19, 20, 21, 22, 23, 24, 25, 26, 27, 28, 29, 30, 31, 32, 33] (by decide +kernel) (by decide +kernel)
set_option maxRecDepth 20000 in
theorem gX4_tryStage_X4_changed : GoodIn wsX4_tryStage (wsV RX4 43 RX4 yX4_changed wsX4_changed) := goodIn_app (goodIn_of _ (by decide +kernel)) ggX4_tryStage_X4_changed
theorem dX4_tryStage_0 : decode cX4_tryStage 0 = .ok (.iconst 0, 1) := by decide +kernel
theorem dX4_tryStage_1 : decode cX4_tryStage 1 = .ok (.istore_n 2, 1) := by decide +kernel
theorem dX4_tryStage_2 : decode cX4_tryStage 2 = .ok (.iload_n 2, 1) := by decide +kernel
theorem dX4_tryStage_3 : decode cX4_tryStage 3 = .ok (.aload_n 0, 1) := by decide +kernel
theorem dX4_tryStage_4 : decode cX4_tryStage 4 = .ok (.getfield 9, 3) := by decide +kernel
theorem dX4_tryStage_7 : decode cX4_tryStage 7 = .ok (.if_icmp .ge 34, 3) := by decide +kernel
theorem dX4_tryStage_10 : decode cX4_tryStage 10 = .ok (.aload_n 0, 1) := by decide +kernel
theorem dX4_tryStage_11 : decode cX4_tryStage 11 = .ok (.getfield 28, 3) := by decide +kernel
theorem dX4_tryStage_14 : decode cX4_tryStage 14 = .ok (.iload_n 2, 1) := by decide +kernel
theorem dX4_tryStage_15 : decode cX4_tryStage 15 = .ok (.iaload, 1) := by decide +kernel
theorem dX4_tryStage_16 : decode cX4_tryStage 16 = .ok (.iload_n 1, 1) := by decide +kernel
theorem dX4_tryStage_17 : decode cX4_tryStage 17 = .ok (.if_icmp .ne 18, 3) := by decide +kernel
theorem dX4_tryStage_20 : decode cX4_tryStage 20 = .ok (.aload_n 0, 1) := by decide +kernel
theorem dX4_tryStage_21 : decode cX4_tryStage 21 = .ok (.getfield 22, 3) := by decide +kernel
theorem dX4_tryStage_24 : decode cX4_tryStage 24 = .ok (.iload_n 2, 1) := by decide +kernel
theorem dX4_tryStage_25 : decode cX4_tryStage 25 = .ok (.aload_n 0, 1) := by decide +kernel
theorem dX4_tryStage_26 : decode cX4_tryStage 26 = .ok (.aload_n 0, 1) := by decide +kernel
theorem dX4_tryStage_27 : decode cX4_tryStage 27 = .ok (.getfield 22, 3) := by decide +kernel
theorem dX4_tryStage_30 : decode cX4_tryStage 30 = .ok (.iload_n 2, 1) := by decide +kernel
theorem dX4_tryStage_31 : decode cX4_tryStage 31 = .ok (.invokevirtual 43, 3) := by decide +kernel
theorem dX4_tryStage_34 : decode cX4_tryStage 34 = .ok (.iastore, 1) := by decide +kernel
theorem dX4_tryStage_35 : decode cX4_tryStage 35 = .ok (.iinc 2 1, 3) := by decide +kernel
theorem dX4_tryStage_38 : decode cX4_tryStage 38 = .ok (.goto (-36), 3) := by decide +kernel
theorem dX4_tryStage_41 : decode cX4_tryStage 41 = .ok (.return_, 1) := by decide +kernel
set_option maxRecDepth 20000 in
theorem ggX4_paint_X4_leastFreeColour : GoodIn wsX4_paint wsX4_leastFreeColour := goodIn_r _ [12, 3, 13, 14, 15, 11, 16, 17, 2, 18, 19, 20, 21, 22, 23, 24] (by decide +kernel) (by decide +kernel)
set_option maxRecDepth 20000 in
theorem gX4_paint_X4_leastFreeColour : GoodIn wsX4_paint (wsV RX4 55 RX4 yX4_leastFreeColour wsX4_leastFreeColour) := goodIn_app (goodIn_of _ (by decide +kernel)) ggX4_paint_X4_leastFreeColour
theorem dX4_paint_0 : decode cX4_paint 0 = .ok (.aload_n 0, 1) := by decide +kernel
theorem dX4_paint_1 : decode cX4_paint 1 = .ok (.iconst 0, 1) := by decide +kernel
theorem dX4_paint_2 : decode cX4_paint 2 = .ok (.putfield 31, 3) := by decide +kernel
theorem dX4_paint_5 : decode cX4_paint 5 = .ok (.iconst 0, 1) := by decide +kernel
theorem dX4_paint_6 : decode cX4_paint 6 = .ok (.istore_n 1, 1) := by decide +kernel
theorem dX4_paint_7 : decode cX4_paint 7 = .ok (.iload_n 1, 1) := by decide +kernel
theorem dX4_paint_8 : decode cX4_paint 8 = .ok (.aload_n 0, 1) := by decide +kernel
theorem dX4_paint_9 : decode cX4_paint 9 = .ok (.getfield 9, 3) := by decide +kernel
theorem dX4_paint_12 : decode cX4_paint 12 = .ok (.if_icmp .ge 39, 3) := by decide +kernel
theorem dX4_paint_15 : decode cX4_paint 15 = .ok (.aload_n 0, 1) := by decide +kernel
theorem dX4_paint_16 : decode cX4_paint 16 = .ok (.getfield 28, 3) := by decide +kernel
theorem dX4_paint_19 : decode cX4_paint 19 = .ok (.iload_n 1, 1) := by decide +kernel
theorem dX4_paint_20 : decode cX4_paint 20 = .ok (.aload_n 0, 1) := by decide +kernel
theorem dX4_paint_21 : decode cX4_paint 21 = .ok (.iload_n 1, 1) := by decide +kernel
theorem dX4_paint_22 : decode cX4_paint 22 = .ok (.invokevirtual 55, 3) := by decide +kernel
theorem dX4_paint_25 : decode cX4_paint 25 = .ok (.iastore, 1) := by decide +kernel
theorem dX4_paint_26 : decode cX4_paint 26 = .ok (.aload_n 0, 1) := by decide +kernel
theorem dX4_paint_27 : decode cX4_paint 27 = .ok (.aload_n 0, 1) := by decide +kernel
theorem dX4_paint_28 : decode cX4_paint 28 = .ok (.getfield 31, 3) := by decide +kernel
theorem dX4_paint_31 : decode cX4_paint 31 = .ok (.aload_n 0, 1) := by decide +kernel
theorem dX4_paint_32 : decode cX4_paint 32 = .ok (.getfield 28, 3) := by decide +kernel
theorem dX4_paint_35 : decode cX4_paint 35 = .ok (.iload_n 1, 1) := by decide +kernel
theorem dX4_paint_36 : decode cX4_paint 36 = .ok (.iaload, 1) := by decide +kernel
theorem dX4_paint_37 : decode cX4_paint 37 = .ok (.iconst 1, 1) := by decide +kernel
theorem dX4_paint_38 : decode cX4_paint 38 = .ok (.iadd, 1) := by decide +kernel
theorem dX4_paint_39 : decode cX4_paint 39 = .ok (.invokestatic 59, 3) := by decide +kernel
theorem dX4_paint_42 : decode cX4_paint 42 = .ok (.putfield 31, 3) := by decide +kernel
theorem dX4_paint_45 : decode cX4_paint 45 = .ok (.iinc 1 1, 3) := by decide +kernel
theorem dX4_paint_48 : decode cX4_paint 48 = .ok (.goto (-41), 3) := by decide +kernel
theorem dX4_paint_51 : decode cX4_paint 51 = .ok (.return_, 1) := by decide +kernel
set_option maxRecDepth 20000 in
theorem ggX4_leastFreeColour_X4_shareBetween : GoodIn wsX4_leastFreeColour wsX4_shareBetween := goodIn_r _ [6, 7, 8, 9, 10, 11, 12, 13, 14, 15] (by decide +kernel) (by decide +kernel)
set_option maxRecDepth 20000 in
theorem gX4_leastFreeColour_X4_shareBetween : GoodIn wsX4_leastFreeColour (wsV RX4 65 RX4 yX4_shareBetween wsX4_shareBetween) := goodIn_app (goodIn_of _ (by decide +kernel)) ggX4_leastFreeColour_X4_shareBetween
theorem dX4_leastFreeColour_0 : decode cX4_leastFreeColour 0 = .ok (.iconst 0, 1) := by decide +kernel
theorem dX4_leastFreeColour_1 : decode cX4_leastFreeColour 1 = .ok (.istore_n 2, 1) := by decide +kernel
theorem dX4_leastFreeColour_2 : decode cX4_leastFreeColour 2 = .ok (.iconst 0, 1) := by decide +kernel
theorem dX4_leastFreeColour_3 : decode cX4_leastFreeColour 3 = .ok (.istore_n 3, 1) := by decide +kernel
theorem dX4_leastFreeColour_4 : decode cX4_leastFreeColour 4 = .ok (.iload_n 3, 1) := by decide +kernel
theorem dX4_leastFreeColour_5 : decode cX4_leastFreeColour 5 = .ok (.iload_n 1, 1) := by decide +kernel
theorem dX4_leastFreeColour_6 : decode cX4_leastFreeColour 6 = .ok (.if_icmp .ge 29, 3) := by decide +kernel
theorem dX4_leastFreeColour_9 : decode cX4_leastFreeColour 9 = .ok (.aload_n 0, 1) := by decide +kernel
theorem dX4_leastFreeColour_10 : decode cX4_leastFreeColour 10 = .ok (.iload_n 1, 1) := by decide +kernel
theorem dX4_leastFreeColour_11 : decode cX4_leastFreeColour 11 = .ok (.iload_n 3, 1) := by decide +kernel
theorem dX4_leastFreeColour_12 : decode cX4_leastFreeColour 12 = .ok (.invokevirtual 65, 3) := by decide +kernel
theorem dX4_leastFreeColour_15 : decode cX4_leastFreeColour 15 = .ok (.ifCond .le 14, 3) := by decide +kernel
theorem dX4_leastFreeColour_18 : decode cX4_leastFreeColour 18 = .ok (.iload_n 2, 1) := by decide +kernel
theorem dX4_leastFreeColour_19 : decode cX4_leastFreeColour 19 = .ok (.iconst 1, 1) := by decide +kernel
theorem dX4_leastFreeColour_20 : decode cX4_leastFreeColour 20 = .ok (.aload_n 0, 1) := by decide +kernel
theorem dX4_leastFreeColour_21 : decode cX4_leastFreeColour 21 = .ok (.getfield 28, 3) := by decide +kernel
theorem dX4_leastFreeColour_24 : decode cX4_leastFreeColour 24 = .ok (.iload_n 3, 1) := by decide +kernel
theorem dX4_leastFreeColour_25 : decode cX4_leastFreeColour 25 = .ok (.iaload, 1) := by decide +kernel
theorem dX4_leastFreeColour_26 : decode cX4_leastFreeColour 26 = .ok (.ishl, 1) := by decide +kernel
theorem dX4_leastFreeColour_27 : decode cX4_leastFreeColour 27 = .ok (.ior, 1) := by decide +kernel
theorem dX4_leastFreeColour_28 : decode cX4_leastFreeColour 28 = .ok (.istore_n 2, 1) := by decide +kernel
theorem dX4_leastFreeColour_29 : decode cX4_leastFreeColour 29 = .ok (.iinc 3 1, 3) := by decide +kernel
theorem dX4_leastFreeColour_32 : decode cX4_leastFreeColour 32 = .ok (.goto (-28), 3) := by decide +kernel
theorem dX4_leastFreeColour_35 : decode cX4_leastFreeColour 35 = .ok (.iconst 0, 1) := by decide +kernel
theorem dX4_leastFreeColour_36 : decode cX4_leastFreeColour 36 = .ok (.istore_n 3, 1) := by decide +kernel
theorem dX4_leastFreeColour_37 : decode cX4_leastFreeColour 37 = .ok (.iload_n 3, 1) := by decide +kernel
theorem dX4_leastFreeColour_38 : decode cX4_leastFreeColour 38 = .ok (.iload_n 1, 1) := by decide +kernel
theorem dX4_leastFreeColour_39 : decode cX4_leastFreeColour 39 = .ok (.if_icmp .ge 19, 3) := by decide +kernel
theorem dX4_leastFreeColour_42 : decode cX4_leastFreeColour 42 = .ok (.iload_n 2, 1) := by decide +kernel
theorem dX4_leastFreeColour_43 : decode cX4_leastFreeColour 43 = .ok (.iload_n 3, 1) := by decide +kernel
theorem dX4_leastFreeColour_44 : decode cX4_leastFreeColour 44 = .ok (.ishr, 1) := by decide +kernel
theorem dX4_leastFreeColour_45 : decode cX4_leastFreeColour 45 = .ok (.iconst 1, 1) := by decide +kernel
theorem dX4_leastFreeColour_46 : decode cX4_leastFreeColour 46 = .ok (.iand, 1) := by decide +kernel
theorem dX4_leastFreeColour_47 : decode cX4_leastFreeColour 47 = .ok (.ifCond .ne 5, 3) := by decide +kernel
theorem dX4_leastFreeColour_50 : decode cX4_leastFreeColour 50 = .ok (.iload_n 3, 1) := by decide +kernel
theorem dX4_leastFreeColour_51 : decode cX4_leastFreeColour 51 = .ok (.ireturn, 1) := by decide +kernel
theorem dX4_leastFreeColour_52 : decode cX4_leastFreeColour 52 = .ok (.iinc 3 1, 3) := by decide +kernel
theorem dX4_leastFreeColour_55 : decode cX4_leastFreeColour 55 = .ok (.goto (-18), 3) := by decide +kernel
theorem dX4_leastFreeColour_58 : decode cX4_leastFreeColour 58 = .ok (.iload_n 1, 1) := by decide +kernel
theorem dX4_leastFreeColour_59 : decode cX4_leastFreeColour 59 = .ok (.ireturn, 1) := by decide +kernel
set_option maxRecDepth 20000 in
theorem ggX4_changed_X4_shareBetween : GoodIn wsX4_changed wsX4_shareBetween := goodIn_r _ [7, 8, 1, 21, 22, 23, 24, 25, 26, 27] (by decide +kernel) (by decide +kernel)
set_option maxRecDepth 20000 in
theorem gX4_changed_X4_shareBetween : GoodIn wsX4_changed (wsV RX4 65 RX4 yX4_shareBetween wsX4_shareBetween) := goodIn_app (goodIn_of _ (by decide +kernel)) ggX4_changed_X4_shareBetween
set_option maxRecDepth 20000 in
theorem ggX4_changed_X5_keptWithin : GoodIn wsX4_changed wsX5_keptWithin := goodIn_r _ [11, 12, 13, 14, 15, 16, 17, 18, 19, 20] (by decide +kernel) (by decide +kernel)
set_option maxRecDepth 20000 in
theorem gX4_changed_X5_keptWithin_n70 : GoodIn wsX4_changed (wsX5_keptWithin) := ggX4_changed_X5_keptWithin
theorem dX4_changed_0 : decode cX4_changed 0 = .ok (.aload_n 1, 1) := by decide +kernel
theorem dX4_changed_1 : decode cX4_changed 1 = .ok (.iload_n 2, 1) := by decide +kernel
theorem dX4_changed_2 : decode cX4_changed 2 = .ok (.iaload, 1) := by decide +kernel
theorem dX4_changed_3 : decode cX4_changed 3 = .ok (.istore_n 3, 1) := by decide +kernel
theorem dX4_changed_4 : decode cX4_changed 4 = .ok (.lconst 0, 1) := by decide +kernel
theorem dX4_changed_5 : decode cX4_changed 5 = .ok (.lstore 4, 2) := by decide +kernel
theorem dX4_changed_7 : decode cX4_changed 7 = .ok (.iconst 0, 1) := by decide +kernel
theorem dX4_changed_8 : decode cX4_changed 8 = .ok (.istore 6, 2) := by decide +kernel
theorem dX4_changed_10 : decode cX4_changed 10 = .ok (.iload 6, 2) := by decide +kernel
theorem dX4_changed_12 : decode cX4_changed 12 = .ok (.aload_n 0, 1) := by decide +kernel
theorem dX4_changed_13 : decode cX4_changed 13 = .ok (.getfield 9, 3) := by decide +kernel
theorem dX4_changed_16 : decode cX4_changed 16 = .ok (.if_icmp .ge 30, 3) := by decide +kernel
theorem dX4_changed_19 : decode cX4_changed 19 = .ok (.lload 4, 2) := by decide +kernel
theorem dX4_changed_21 : decode cX4_changed 21 = .ok (.aload_n 0, 1) := by decide +kernel
theorem dX4_changed_22 : decode cX4_changed 22 = .ok (.iload_n 2, 1) := by decide +kernel
theorem dX4_changed_23 : decode cX4_changed 23 = .ok (.iload 6, 2) := by decide +kernel
theorem dX4_changed_25 : decode cX4_changed 25 = .ok (.invokevirtual 65, 3) := by decide +kernel
theorem dX4_changed_28 : decode cX4_changed 28 = .ok (.i2l, 1) := by decide +kernel
theorem dX4_changed_29 : decode cX4_changed 29 = .ok (.aload_n 1, 1) := by decide +kernel
theorem dX4_changed_30 : decode cX4_changed 30 = .ok (.iload 6, 2) := by decide +kernel
theorem dX4_changed_32 : decode cX4_changed 32 = .ok (.iaload, 1) := by decide +kernel
theorem dX4_changed_33 : decode cX4_changed 33 = .ok (.iload_n 3, 1) := by decide +kernel
theorem dX4_changed_34 : decode cX4_changed 34 = .ok (.isub, 1) := by decide +kernel
theorem dX4_changed_35 : decode cX4_changed 35 = .ok (.i2l, 1) := by decide +kernel
theorem dX4_changed_36 : decode cX4_changed 36 = .ok (.lmul, 1) := by decide +kernel
theorem dX4_changed_37 : decode cX4_changed 37 = .ok (.ladd, 1) := by decide +kernel
theorem dX4_changed_38 : decode cX4_changed 38 = .ok (.lstore 4, 2) := by decide +kernel
theorem dX4_changed_40 : decode cX4_changed 40 = .ok (.iinc 6 1, 3) := by decide +kernel
theorem dX4_changed_43 : decode cX4_changed 43 = .ok (.goto (-33), 3) := by decide +kernel
theorem dX4_changed_46 : decode cX4_changed 46 = .ok (.iload_n 3, 1) := by decide +kernel
theorem dX4_changed_47 : decode cX4_changed 47 = .ok (.i2l, 1) := by decide +kernel
theorem dX4_changed_48 : decode cX4_changed 48 = .ok (.lload 4, 2) := by decide +kernel
theorem dX4_changed_50 : decode cX4_changed 50 = .ok (.ldc2_w 68, 3) := by decide +kernel
theorem dX4_changed_53 : decode cX4_changed 53 = .ok (.ldiv, 1) := by decide +kernel
theorem dX4_changed_54 : decode cX4_changed 54 = .ok (.ladd, 1) := by decide +kernel
theorem dX4_changed_55 : decode cX4_changed 55 = .ok (.invokestatic 70, 3) := by decide +kernel
theorem dX4_changed_58 : decode cX4_changed 58 = .ok (.ireturn, 1) := by decide +kernel
set_option maxRecDepth 20000 in
theorem ggX4_treeSum_X4_treeSum : GoodIn wsX4_treeSum wsX4_treeSum := goodIn_r _ [0, 1, 2, 3, 4, 5, 6, 7, 8, 9, 10, 11, 12, 13, 14, 15] (by decide +kernel) (by decide +kernel)
set_option maxRecDepth 20000 in
theorem gX4_treeSum_X4_treeSum : GoodIn wsX4_treeSum (va_wsS RX4 47 yX4_treeSum wsX4_treeSum) := goodIn_app (goodIn_of _ (by decide +kernel)) ggX4_treeSum_X4_treeSum
set_option maxRecDepth 20000 in
theorem ggX4_treeSum_X5_keptWithin : GoodIn wsX4_treeSum wsX5_keptWithin := goodIn_r _ [6, 7, 8, 9, 10, 11, 12, 13, 14, 15] (by decide +kernel) (by decide +kernel)
set_option maxRecDepth 20000 in
theorem gX4_treeSum_X5_keptWithin_n70 : GoodIn wsX4_treeSum (wsX5_keptWithin) := ggX4_treeSum_X5_keptWithin
theorem dX4_treeSum_0 : decode cX4_treeSum 0 = .ok (.iload_n 2, 1) := by decide +kernel
theorem dX4_treeSum_1 : decode cX4_treeSum 1 = .ok (.iconst 1, 1) := by decide +kernel
theorem dX4_treeSum_2 : decode cX4_treeSum 2 = .ok (.if_icmp .le 9, 3) := by decide +kernel
theorem dX4_treeSum_5 : decode cX4_treeSum 5 = .ok (.iload_n 3, 1) := by decide +kernel
theorem dX4_treeSum_6 : decode cX4_treeSum 6 = .ok (.bipush 8, 2) := by decide +kernel
theorem dX4_treeSum_8 : decode cX4_treeSum 8 = .ok (.if_icmp .le 7, 3) := by decide +kernel
theorem dX4_treeSum_11 : decode cX4_treeSum 11 = .ok (.aload_n 0, 1) := by decide +kernel
theorem dX4_treeSum_12 : decode cX4_treeSum 12 = .ok (.iload_n 1, 1) := by decide +kernel
theorem dX4_treeSum_13 : decode cX4_treeSum 13 = .ok (.iaload, 1) := by decide +kernel
theorem dX4_treeSum_14 : decode cX4_treeSum 14 = .ok (.ireturn, 1) := by decide +kernel
theorem dX4_treeSum_15 : decode cX4_treeSum 15 = .ok (.iload_n 2, 1) := by decide +kernel
theorem dX4_treeSum_16 : decode cX4_treeSum 16 = .ok (.iconst 1, 1) := by decide +kernel
theorem dX4_treeSum_17 : decode cX4_treeSum 17 = .ok (.iadd, 1) := by decide +kernel
theorem dX4_treeSum_18 : decode cX4_treeSum 18 = .ok (.iconst 2, 1) := by decide +kernel
theorem dX4_treeSum_19 : decode cX4_treeSum 19 = .ok (.idiv, 1) := by decide +kernel
theorem dX4_treeSum_20 : decode cX4_treeSum 20 = .ok (.istore 4, 2) := by decide +kernel
theorem dX4_treeSum_22 : decode cX4_treeSum 22 = .ok (.aload_n 0, 1) := by decide +kernel
theorem dX4_treeSum_23 : decode cX4_treeSum 23 = .ok (.iload_n 1, 1) := by decide +kernel
theorem dX4_treeSum_24 : decode cX4_treeSum 24 = .ok (.iload 4, 2) := by decide +kernel
theorem dX4_treeSum_26 : decode cX4_treeSum 26 = .ok (.iload_n 3, 1) := by decide +kernel
theorem dX4_treeSum_27 : decode cX4_treeSum 27 = .ok (.iconst 1, 1) := by decide +kernel
theorem dX4_treeSum_28 : decode cX4_treeSum 28 = .ok (.iadd, 1) := by decide +kernel
theorem dX4_treeSum_29 : decode cX4_treeSum 29 = .ok (.invokestatic 47, 3) := by decide +kernel
theorem dX4_treeSum_32 : decode cX4_treeSum 32 = .ok (.istore 5, 2) := by decide +kernel
theorem dX4_treeSum_34 : decode cX4_treeSum 34 = .ok (.aload_n 0, 1) := by decide +kernel
theorem dX4_treeSum_35 : decode cX4_treeSum 35 = .ok (.iload_n 1, 1) := by decide +kernel
theorem dX4_treeSum_36 : decode cX4_treeSum 36 = .ok (.iload 4, 2) := by decide +kernel
theorem dX4_treeSum_38 : decode cX4_treeSum 38 = .ok (.iadd, 1) := by decide +kernel
theorem dX4_treeSum_39 : decode cX4_treeSum 39 = .ok (.iload_n 2, 1) := by decide +kernel
theorem dX4_treeSum_40 : decode cX4_treeSum 40 = .ok (.iload 4, 2) := by decide +kernel
theorem dX4_treeSum_42 : decode cX4_treeSum 42 = .ok (.isub, 1) := by decide +kernel
theorem dX4_treeSum_43 : decode cX4_treeSum 43 = .ok (.iload_n 3, 1) := by decide +kernel
theorem dX4_treeSum_44 : decode cX4_treeSum 44 = .ok (.iconst 1, 1) := by decide +kernel
theorem dX4_treeSum_45 : decode cX4_treeSum 45 = .ok (.iadd, 1) := by decide +kernel
theorem dX4_treeSum_46 : decode cX4_treeSum 46 = .ok (.invokestatic 47, 3) := by decide +kernel
theorem dX4_treeSum_49 : decode cX4_treeSum 49 = .ok (.istore 6, 2) := by decide +kernel
theorem dX4_treeSum_51 : decode cX4_treeSum 51 = .ok (.iload 5, 2) := by decide +kernel
theorem dX4_treeSum_53 : decode cX4_treeSum 53 = .ok (.iload 6, 2) := by decide +kernel
theorem dX4_treeSum_55 : decode cX4_treeSum 55 = .ok (.iadd, 1) := by decide +kernel
theorem dX4_treeSum_56 : decode cX4_treeSum 56 = .ok (.i2l, 1) := by decide +kernel
theorem dX4_treeSum_57 : decode cX4_treeSum 57 = .ok (.invokestatic 70, 3) := by decide +kernel
theorem dX4_treeSum_60 : decode cX4_treeSum 60 = .ok (.ireturn, 1) := by decide +kernel
set_option maxRecDepth 20000 in
theorem ggX5_init_X4_init : GoodIn wsX5_init wsX4_init := goodIn_r _ [34, 35, 2, 3, 36, 37, 38, 39, 40, 41, 42, 43, 72, 73, 74, 75, 76, 77, 78] (by decide +kernel) (by decide +kernel)
set_option maxRecDepth 20000 in
theorem gX5_init_X4_init : GoodIn wsX5_init (wsX4_init) := ggX5_init_X4_init
set_option maxRecDepth 20000 in
theorem ggX5_init_X2_init : GoodIn wsX5_init wsX2_init := goodIn_r _ [46, 47, 2, 3, 37, 48, 49, 85, 86] (by decide +kernel) (by decide +kernel)
set_option maxRecDepth 20000 in
theorem gX5_init_X2_init : GoodIn wsX5_init (wsX2_init) := ggX5_init_X2_init
set_option maxRecDepth 20000 in
theorem ggX5_init_X1_init : GoodIn wsX5_init wsX1_init := goodIn_r _ [52, 53, 2, 3, 37, 54, 55, 56, 87, 88, 89] (by decide +kernel) (by decide +kernel)
set_option maxRecDepth 20000 in
theorem gX5_init_X1_init : GoodIn wsX5_init (wsX1_init) := ggX5_init_X1_init
set_option maxRecDepth 20000 in
theorem ggX5_init_X0_init : GoodIn wsX5_init wsX0_init := goodIn_r _ [59, 60, 2, 3, 37, 61, 62, 90, 91] (by decide +kernel) (by decide +kernel)
set_option maxRecDepth 20000 in
theorem gX5_init_X0_init : GoodIn wsX5_init (wsX0_init) := ggX5_init_X0_init
set_option maxRecDepth 20000 in
theorem ggX5_init_X3_init : GoodIn wsX5_init wsX3_init := goodIn_r _ [65, 66, 2, 3, 37, 67, 68, 69, 70, 71, 92, 93, 94, 95, 96] (by decide +kernel) (by decide +kernel)
set_option maxRecDepth 20000 in
theorem gX5_init_X3_init : GoodIn wsX5_init (wsX3_init) := ggX5_init_X3_init
theorem dX5_init_0 : decode cX5_init 0 = .ok (.aload_n 0, 1) := by decide +kernel
theorem dX5_init_1 : decode cX5_init 1 = .ok (.invokespecial 1, 3) := by decide +kernel
theorem dX5_init_4 : decode cX5_init 4 = .ok (.aload_n 0, 1) := by decide +kernel
theorem dX5_init_5 : decode cX5_init 5 = .ok (.new 7, 3) := by decide +kernel
theorem dX5_init_8 : decode cX5_init 8 = .ok (.dup, 1) := by decide +kernel
theorem dX5_init_9 : decode cX5_init 9 = .ok (.iconst 1, 1) := by decide +kernel
theorem dX5_init_10 : decode cX5_init 10 = .ok (.bipush 24, 2) := by decide +kernel
theorem dX5_init_12 : decode cX5_init 12 = .ok (.iload_n 1, 1) := by decide +kernel
theorem dX5_init_13 : decode cX5_init 13 = .ok (.invokestatic 11, 3) := by decide +kernel
theorem dX5_init_16 : decode cX5_init 16 = .ok (.invokestatic 17, 3) := by decide +kernel
theorem dX5_init_19 : decode cX5_init 19 = .ok (.invokespecial 20, 3) := by decide +kernel
theorem dX5_init_22 : decode cX5_init 22 = .ok (.putfield 23, 3) := by decide +kernel
theorem dX5_init_25 : decode cX5_init 25 = .ok (.aload_n 0, 1) := by decide +kernel
theorem dX5_init_26 : decode cX5_init 26 = .ok (.new 27, 3) := by decide +kernel
theorem dX5_init_29 : decode cX5_init 29 = .ok (.dup, 1) := by decide +kernel
theorem dX5_init_30 : decode cX5_init 30 = .ok (.invokespecial 29, 3) := by decide +kernel
theorem dX5_init_33 : decode cX5_init 33 = .ok (.putfield 30, 3) := by decide +kernel
theorem dX5_init_36 : decode cX5_init 36 = .ok (.aload_n 0, 1) := by decide +kernel
theorem dX5_init_37 : decode cX5_init 37 = .ok (.new 34, 3) := by decide +kernel
theorem dX5_init_40 : decode cX5_init 40 = .ok (.dup, 1) := by decide +kernel
theorem dX5_init_41 : decode cX5_init 41 = .ok (.invokespecial 36, 3) := by decide +kernel
theorem dX5_init_44 : decode cX5_init 44 = .ok (.putfield 37, 3) := by decide +kernel
theorem dX5_init_47 : decode cX5_init 47 = .ok (.aload_n 0, 1) := by decide +kernel
theorem dX5_init_48 : decode cX5_init 48 = .ok (.new 41, 3) := by decide +kernel
theorem dX5_init_51 : decode cX5_init 51 = .ok (.dup, 1) := by decide +kernel
theorem dX5_init_52 : decode cX5_init 52 = .ok (.invokespecial 43, 3) := by decide +kernel
theorem dX5_init_55 : decode cX5_init 55 = .ok (.putfield 44, 3) := by decide +kernel
theorem dX5_init_58 : decode cX5_init 58 = .ok (.aload_n 0, 1) := by decide +kernel
theorem dX5_init_59 : decode cX5_init 59 = .ok (.new 48, 3) := by decide +kernel
theorem dX5_init_62 : decode cX5_init 62 = .ok (.dup, 1) := by decide +kernel
theorem dX5_init_63 : decode cX5_init 63 = .ok (.invokespecial 50, 3) := by decide +kernel
theorem dX5_init_66 : decode cX5_init 66 = .ok (.putfield 51, 3) := by decide +kernel
theorem dX5_init_69 : decode cX5_init 69 = .ok (.aload_n 0, 1) := by decide +kernel
theorem dX5_init_70 : decode cX5_init 70 = .ok (.iconst (-1), 1) := by decide +kernel
theorem dX5_init_71 : decode cX5_init 71 = .ok (.putfield 55, 3) := by decide +kernel
theorem dX5_init_74 : decode cX5_init 74 = .ok (.return_, 1) := by decide +kernel
set_option maxRecDepth 20000 in
theorem ggX5_wall_X5_checkZone : GoodIn wsX5_wall wsX5_checkZone := goodIn_ca (goodIn_r _ [8, 3, 9, 10, 11, 12, 13, 14, 15, 16, 7, 17, 1, 2, 42, 43, 44, 45, 46, 47, 48, 49, 50, 51, 52, 53, 54] (by decide +kernel) (by decide +kernel)) (goodIn_sub (fun _ h => List.mem_cons_of_mem _ (List.mem_append_right _ h)) (by decide +kernel))
set_option maxRecDepth 20000 in
theorem gX5_wall_X5_checkZone : GoodIn wsX5_wall (wsV RX5 59 RX5 yX5_checkZone wsX5_checkZone) := goodIn_app (goodIn_of _ (by decide +kernel)) ggX5_wall_X5_checkZone
set_option maxRecDepth 20000 in
theorem ggX5_wall_X5_checkWithin : GoodIn wsX5_wall wsX5_checkWithin := goodIn_ca (goodIn_r _ [17, 1, 2] (by decide +kernel) (by decide +kernel)) (goodIn_sub (fun _ h => List.mem_cons_of_mem _ (List.mem_append_right _ h)) (by decide +kernel))
set_option maxRecDepth 20000 in
theorem gX5_wall_X5_checkWithin : GoodIn wsX5_wall (va_wsS RX5 62 yX5_checkWithin wsX5_checkWithin) := goodIn_app (goodIn_of _ (by decide +kernel)) ggX5_wall_X5_checkWithin
set_option maxRecDepth 20000 in
theorem ggX5_wall_X4_shareBetween : GoodIn wsX5_wall wsX4_shareBetween := goodIn_r _ [21, 22, 14, 48, 49, 50, 51, 52, 53, 54] (by decide +kernel) (by decide +kernel)
set_option maxRecDepth 20000 in
theorem gX5_wall_X4_shareBetween : GoodIn wsX5_wall (wsV RX5 73 RX4 yX4_shareBetween wsX4_shareBetween) := goodIn_app (goodIn_of _ (by decide +kernel)) ggX5_wall_X4_shareBetween
set_option maxRecDepth 20000 in
theorem ggX5_wall_X4_build : GoodIn wsX5_wall wsX4_build := goodIn_r _ [26, 22, 14, 27, 28, 29, 12, 30, 31, 32, 33, 34, 35, 36, 37, 38, 39, 40, 41, 19, 20, 21, 48, 49, 50, 51, 52, 53, 54] (by decide +kernel) (by decide +kernel)
set_option maxRecDepth 20000 in
theorem gX5_wall_X4_build : GoodIn wsX5_wall (wsV RX5 76 RX4 yX4_build wsX4_build) := goodIn_app (goodIn_of _ (by decide +kernel)) ggX5_wall_X4_build
theorem dX5_wall_0 : decode cX5_wall 0 = .ok (.aload_n 0, 1) := by decide +kernel
theorem dX5_wall_1 : decode cX5_wall 1 = .ok (.iload_n 1, 1) := by decide +kernel
theorem dX5_wall_2 : decode cX5_wall 2 = .ok (.invokevirtual 59, 3) := by decide +kernel
theorem dX5_wall_5 : decode cX5_wall 5 = .ok (.aload_n 0, 1) := by decide +kernel
theorem dX5_wall_6 : decode cX5_wall 6 = .ok (.iload_n 2, 1) := by decide +kernel
