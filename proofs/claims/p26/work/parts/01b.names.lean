theorem dX0_init_0 : decode cX0_init 0 = .ok (.aload_n 0, 1) := by decide +kernel
theorem dX0_init_1 : decode cX0_init 1 = .ok (.invokespecial 3, 3) := by decide +kernel
theorem dX0_init_4 : decode cX0_init 4 = .ok (.aload_n 0, 1) := by decide +kernel
theorem dX0_init_5 : decode cX0_init 5 = .ok (.iconst (-1), 1) := by decide +kernel
theorem dX0_init_6 : decode cX0_init 6 = .ok (.putfield 9, 3) := by decide +kernel
theorem dX0_init_9 : decode cX0_init 9 = .ok (.aload_n 0, 1) := by decide +kernel
theorem dX0_init_10 : decode cX0_init 10 = .ok (.iconst 0, 1) := by decide +kernel
theorem dX0_init_11 : decode cX0_init 11 = .ok (.putfield 15, 3) := by decide +kernel
theorem dX0_init_14 : decode cX0_init 14 = .ok (.aload_n 0, 1) := by decide +kernel
theorem dX0_init_15 : decode cX0_init 15 = .ok (.iload_n 1, 1) := by decide +kernel
theorem dX0_init_16 : decode cX0_init 16 = .ok (.putfield 18, 3) := by decide +kernel
theorem dX0_init_19 : decode cX0_init 19 = .ok (.aload_n 0, 1) := by decide +kernel
theorem dX0_init_20 : decode cX0_init 20 = .ok (.iload_n 2, 1) := by decide +kernel
theorem dX0_init_21 : decode cX0_init 21 = .ok (.putfield 21, 3) := by decide +kernel
theorem dX0_init_24 : decode cX0_init 24 = .ok (.aload_n 0, 1) := by decide +kernel
theorem dX0_init_25 : decode cX0_init 25 = .ok (.iload_n 3, 1) := by decide +kernel
theorem dX0_init_26 : decode cX0_init 26 = .ok (.putfield 24, 3) := by decide +kernel
theorem dX0_init_29 : decode cX0_init 29 = .ok (.aload_n 0, 1) := by decide +kernel
theorem dX0_init_30 : decode cX0_init 30 = .ok (.iload 4, 2) := by decide +kernel
theorem dX0_init_32 : decode cX0_init 32 = .ok (.putfield 27, 3) := by decide +kernel
theorem dX0_init_35 : decode cX0_init 35 = .ok (.aload_n 0, 1) := by decide +kernel
theorem dX0_init_36 : decode cX0_init 36 = .ok (.iload 5, 2) := by decide +kernel
theorem dX0_init_38 : decode cX0_init 38 = .ok (.putfield 30, 3) := by decide +kernel
theorem dX0_init_41 : decode cX0_init 41 = .ok (.aload_n 0, 1) := by decide +kernel
theorem dX0_init_42 : decode cX0_init 42 = .ok (.aload 6, 2) := by decide +kernel
theorem dX0_init_44 : decode cX0_init 44 = .ok (.putfield 33, 3) := by decide +kernel
theorem dX0_init_47 : decode cX0_init 47 = .ok (.aload_n 0, 1) := by decide +kernel
theorem dX0_init_48 : decode cX0_init 48 = .ok (.aload 6, 2) := by decide +kernel
theorem dX0_init_50 : decode cX0_init 50 = .ok (.invokevirtual 37, 3) := by decide +kernel
theorem dX0_init_53 : decode cX0_init 53 = .ok (.checkcast 38, 3) := by decide +kernel
theorem dX0_init_56 : decode cX0_init 56 = .ok (.putfield 42, 3) := by decide +kernel
theorem dX0_init_59 : decode cX0_init 59 = .ok (.return_, 1) := by decide +kernel
theorem dX0_isBetween_0 : decode cX0_isBetween 0 = .ok (.aload_n 0, 1) := by decide +kernel
theorem dX0_isBetween_1 : decode cX0_isBetween 1 = .ok (.getfield 18, 3) := by decide +kernel
theorem dX0_isBetween_4 : decode cX0_isBetween 4 = .ok (.iload_n 1, 1) := by decide +kernel
theorem dX0_isBetween_5 : decode cX0_isBetween 5 = .ok (.if_icmp .ne 11, 3) := by decide +kernel
theorem dX0_isBetween_8 : decode cX0_isBetween 8 = .ok (.aload_n 0, 1) := by decide +kernel
theorem dX0_isBetween_9 : decode cX0_isBetween 9 = .ok (.getfield 21, 3) := by decide +kernel
theorem dX0_isBetween_12 : decode cX0_isBetween 12 = .ok (.iload_n 2, 1) := by decide +kernel
theorem dX0_isBetween_13 : decode cX0_isBetween 13 = .ok (.if_icmp .eq 19, 3) := by decide +kernel
theorem dX0_isBetween_16 : decode cX0_isBetween 16 = .ok (.aload_n 0, 1) := by decide +kernel
theorem dX0_isBetween_17 : decode cX0_isBetween 17 = .ok (.getfield 18, 3) := by decide +kernel
theorem dX0_isBetween_20 : decode cX0_isBetween 20 = .ok (.iload_n 2, 1) := by decide +kernel
theorem dX0_isBetween_21 : decode cX0_isBetween 21 = .ok (.if_icmp .ne 15, 3) := by decide +kernel
theorem dX0_isBetween_24 : decode cX0_isBetween 24 = .ok (.aload_n 0, 1) := by decide +kernel
theorem dX0_isBetween_25 : decode cX0_isBetween 25 = .ok (.getfield 21, 3) := by decide +kernel
theorem dX0_isBetween_28 : decode cX0_isBetween 28 = .ok (.iload_n 1, 1) := by decide +kernel
theorem dX0_isBetween_29 : decode cX0_isBetween 29 = .ok (.if_icmp .ne 7, 3) := by decide +kernel
theorem dX0_isBetween_32 : decode cX0_isBetween 32 = .ok (.iconst 1, 1) := by decide +kernel
theorem dX0_isBetween_33 : decode cX0_isBetween 33 = .ok (.goto 4, 3) := by decide +kernel
theorem dX0_isBetween_36 : decode cX0_isBetween 36 = .ok (.iconst 0, 1) := by decide +kernel
theorem dX0_isBetween_37 : decode cX0_isBetween 37 = .ok (.ireturn, 1) := by decide +kernel
theorem dX0_partsBooks_0 : decode cX0_partsBooks 0 = .ok (.aload_n 0, 1) := by decide +kernel
theorem dX0_partsBooks_1 : decode cX0_partsBooks 1 = .ok (.getfield 15, 3) := by decide +kernel
theorem dX0_partsBooks_4 : decode cX0_partsBooks 4 = .ok (.iconst 2, 1) := by decide +kernel
theorem dX0_partsBooks_5 : decode cX0_partsBooks 5 = .ok (.if_icmp .eq 18, 3) := by decide +kernel
theorem dX0_partsBooks_8 : decode cX0_partsBooks 8 = .ok (.aload_n 0, 1) := by decide +kernel
theorem dX0_partsBooks_9 : decode cX0_partsBooks 9 = .ok (.getfield 15, 3) := by decide +kernel
theorem dX0_partsBooks_12 : decode cX0_partsBooks 12 = .ok (.iconst 1, 1) := by decide +kernel
theorem dX0_partsBooks_13 : decode cX0_partsBooks 13 = .ok (.if_icmp .ne 14, 3) := by decide +kernel
theorem dX0_partsBooks_16 : decode cX0_partsBooks 16 = .ok (.aload_n 0, 1) := by decide +kernel
theorem dX0_partsBooks_17 : decode cX0_partsBooks 17 = .ok (.getfield 45, 3) := by decide +kernel
theorem dX0_partsBooks_20 : decode cX0_partsBooks 20 = .ok (.ifCond .eq 7, 3) := by decide +kernel
theorem dX0_partsBooks_23 : decode cX0_partsBooks 23 = .ok (.iconst 1, 1) := by decide +kernel
theorem dX0_partsBooks_24 : decode cX0_partsBooks 24 = .ok (.goto 4, 3) := by decide +kernel
theorem dX0_partsBooks_27 : decode cX0_partsBooks 27 = .ok (.iconst 0, 1) := by decide +kernel
theorem dX0_partsBooks_28 : decode cX0_partsBooks 28 = .ok (.ireturn, 1) := by decide +kernel
set_option maxRecDepth 20000 in
set_option maxRecDepth 100000 in
theorem ggX1_init_X2_init : GoodIn wsX1_init wsX2_init := goodIn_r _ [6, 7, 8, 9, 10, 11, 12, 13, 14, 15, 16, 17, 18, 19, 20, 21, 22, 23, 24, 25, 26, 27, 28, 29, 30, 31] rfl (by decide +kernel)
set_option maxRecDepth 20000 in
theorem gX1_init_X2_init : GoodIn wsX1_init (wsX2_init) := ggX1_init_X2_init
theorem dX1_init_0 : decode cX1_init 0 = .ok (.aload_n 0, 1) := by decide +kernel
theorem dX1_init_1 : decode cX1_init 1 = .ok (.iload_n 1, 1) := by decide +kernel
theorem dX1_init_2 : decode cX1_init 2 = .ok (.iload_n 2, 1) := by decide +kernel
theorem dX1_init_3 : decode cX1_init 3 = .ok (.invokespecial 1, 3) := by decide +kernel
theorem dX1_init_6 : decode cX1_init 6 = .ok (.aload_n 0, 1) := by decide +kernel
theorem dX1_init_7 : decode cX1_init 7 = .ok (.iload_n 3, 1) := by decide +kernel
theorem dX1_init_8 : decode cX1_init 8 = .ok (.putfield 7, 3) := by decide +kernel
theorem dX1_init_11 : decode cX1_init 11 = .ok (.aload_n 0, 1) := by decide +kernel
theorem dX1_init_12 : decode cX1_init 12 = .ok (.iload 4, 2) := by decide +kernel
theorem dX1_init_14 : decode cX1_init 14 = .ok (.putfield 13, 3) := by decide +kernel
theorem dX1_init_17 : decode cX1_init 17 = .ok (.return_, 1) := by decide +kernel
set_option maxRecDepth 20000 in
set_option maxRecDepth 100000 in
theorem ggX1_readAt_X7_isHunter : GoodIn wsX1_readAt wsX7_isHunter := goodIn_r _ [6] rfl (by decide +kernel)
set_option maxRecDepth 20000 in
theorem gX1_readAt_X7_isHunter_n16 : GoodIn wsX1_readAt (wsX7_isHunter) := ggX1_readAt_X7_isHunter
theorem dX1_readAt_0 : decode cX1_readAt 0 = .ok (.aload_n 0, 1) := by decide +kernel
theorem dX1_readAt_1 : decode cX1_readAt 1 = .ok (.getfield 7, 3) := by decide +kernel
theorem dX1_readAt_4 : decode cX1_readAt 4 = .ok (.invokestatic 16, 3) := by decide +kernel
theorem dX1_readAt_7 : decode cX1_readAt 7 = .ok (.ifCond .eq 19, 3) := by decide +kernel
theorem dX1_readAt_10 : decode cX1_readAt 10 = .ok (.aload_n 1, 1) := by decide +kernel
theorem dX1_readAt_11 : decode cX1_readAt 11 = .ok (.getfield 22, 3) := by decide +kernel
theorem dX1_readAt_14 : decode cX1_readAt 14 = .ok (.aload_n 0, 1) := by decide +kernel
theorem dX1_readAt_15 : decode cX1_readAt 15 = .ok (.getfield 7, 3) := by decide +kernel
theorem dX1_readAt_18 : decode cX1_readAt 18 = .ok (.dup2, 1) := by decide +kernel
theorem dX1_readAt_19 : decode cX1_readAt 19 = .ok (.iaload, 1) := by decide +kernel
theorem dX1_readAt_20 : decode cX1_readAt 20 = .ok (.aload_n 0, 1) := by decide +kernel
theorem dX1_readAt_21 : decode cX1_readAt 21 = .ok (.getfield 13, 3) := by decide +kernel
theorem dX1_readAt_24 : decode cX1_readAt 24 = .ok (.iadd, 1) := by decide +kernel
theorem dX1_readAt_25 : decode cX1_readAt 25 = .ok (.iastore, 1) := by decide +kernel
theorem dX1_readAt_26 : decode cX1_readAt 26 = .ok (.return_, 1) := by decide +kernel
theorem dX2_init_0 : decode cX2_init 0 = .ok (.aload_n 0, 1) := by decide +kernel
theorem dX2_init_1 : decode cX2_init 1 = .ok (.invokespecial 3, 3) := by decide +kernel
theorem dX2_init_4 : decode cX2_init 4 = .ok (.aload_n 0, 1) := by decide +kernel
theorem dX2_init_5 : decode cX2_init 5 = .ok (.iconst (-1), 1) := by decide +kernel
theorem dX2_init_6 : decode cX2_init 6 = .ok (.putfield 9, 3) := by decide +kernel
theorem dX2_init_9 : decode cX2_init 9 = .ok (.aload_n 0, 1) := by decide +kernel
theorem dX2_init_10 : decode cX2_init 10 = .ok (.iload_n 1, 1) := by decide +kernel
theorem dX2_init_11 : decode cX2_init 11 = .ok (.putfield 15, 3) := by decide +kernel
theorem dX2_init_14 : decode cX2_init 14 = .ok (.aload_n 0, 1) := by decide +kernel
theorem dX2_init_15 : decode cX2_init 15 = .ok (.iload_n 2, 1) := by decide +kernel
theorem dX2_init_16 : decode cX2_init 16 = .ok (.putfield 18, 3) := by decide +kernel
theorem dX2_init_19 : decode cX2_init 19 = .ok (.aload_n 0, 1) := by decide +kernel
theorem dX2_init_20 : decode cX2_init 20 = .ok (.iload_n 1, 1) := by decide +kernel
theorem dX2_init_21 : decode cX2_init 21 = .ok (.putfield 21, 3) := by decide +kernel
theorem dX2_init_24 : decode cX2_init 24 = .ok (.return_, 1) := by decide +kernel
set_option maxRecDepth 20000 in
set_option maxRecDepth 100000 in
theorem ggX3_init_X2_init : GoodIn wsX3_init wsX2_init := goodIn_r _ [6, 7, 8, 9, 10, 11, 12, 13, 20, 21, 22, 23, 24, 25, 14, 15, 16, 17, 18, 19, 26, 27, 28, 29, 30, 31] rfl (by decide +kernel)
set_option maxRecDepth 20000 in
theorem gX3_init_X2_init : GoodIn wsX3_init (wsX2_init) := ggX3_init_X2_init
theorem dX3_init_0 : decode cX3_init 0 = .ok (.aload_n 0, 1) := by decide +kernel
theorem dX3_init_1 : decode cX3_init 1 = .ok (.iload_n 1, 1) := by decide +kernel
theorem dX3_init_2 : decode cX3_init 2 = .ok (.iload_n 2, 1) := by decide +kernel
theorem dX3_init_3 : decode cX3_init 3 = .ok (.invokespecial 1, 3) := by decide +kernel
theorem dX3_init_6 : decode cX3_init 6 = .ok (.aload_n 0, 1) := by decide +kernel
theorem dX3_init_7 : decode cX3_init 7 = .ok (.iload_n 3, 1) := by decide +kernel
theorem dX3_init_8 : decode cX3_init 8 = .ok (.putfield 7, 3) := by decide +kernel
theorem dX3_init_11 : decode cX3_init 11 = .ok (.aload_n 0, 1) := by decide +kernel
theorem dX3_init_12 : decode cX3_init 12 = .ok (.iload 4, 2) := by decide +kernel
theorem dX3_init_14 : decode cX3_init 14 = .ok (.putfield 13, 3) := by decide +kernel
theorem dX3_init_17 : decode cX3_init 17 = .ok (.return_, 1) := by decide +kernel
set_option maxRecDepth 20000 in
set_option maxRecDepth 100000 in
theorem ggX3_readAt_X7_isWare : GoodIn wsX3_readAt wsX7_isWare := goodIn_r _ [6] rfl (by decide +kernel)
set_option maxRecDepth 20000 in
theorem gX3_readAt_X7_isWare_n16 : GoodIn wsX3_readAt (wsX7_isWare) := ggX3_readAt_X7_isWare
theorem dX3_readAt_0 : decode cX3_readAt 0 = .ok (.aload_n 0, 1) := by decide +kernel
theorem dX3_readAt_1 : decode cX3_readAt 1 = .ok (.getfield 7, 3) := by decide +kernel
theorem dX3_readAt_4 : decode cX3_readAt 4 = .ok (.invokestatic 16, 3) := by decide +kernel
theorem dX3_readAt_7 : decode cX3_readAt 7 = .ok (.ifCond .eq 16, 3) := by decide +kernel
theorem dX3_readAt_10 : decode cX3_readAt 10 = .ok (.aload_n 1, 1) := by decide +kernel
theorem dX3_readAt_11 : decode cX3_readAt 11 = .ok (.getfield 22, 3) := by decide +kernel
theorem dX3_readAt_14 : decode cX3_readAt 14 = .ok (.aload_n 0, 1) := by decide +kernel
theorem dX3_readAt_15 : decode cX3_readAt 15 = .ok (.getfield 7, 3) := by decide +kernel
theorem dX3_readAt_18 : decode cX3_readAt 18 = .ok (.aload_n 0, 1) := by decide +kernel
theorem dX3_readAt_19 : decode cX3_readAt 19 = .ok (.getfield 13, 3) := by decide +kernel
theorem dX3_readAt_22 : decode cX3_readAt 22 = .ok (.iastore, 1) := by decide +kernel
theorem dX3_readAt_23 : decode cX3_readAt 23 = .ok (.return_, 1) := by decide +kernel
set_option maxRecDepth 20000 in
set_option maxRecDepth 100000 in
theorem ggX4_init_J7_fill_53178 : GoodIn wsX4_init wsJ7_fill_53178 := goodIn_r _ [13] rfl (by decide +kernel)
set_option maxRecDepth 20000 in
theorem gX4_init_J7_fill_53178 : GoodIn wsX4_init (va_wsS RX4 27 yJ7_fill_53178 wsJ7_fill_53178) := goodIn_app (goodIn_of _ (by decide +kernel)) ggX4_init_J7_fill_53178
theorem dX4_init_0 : decode cX4_init 0 = .ok (.aload_n 0, 1) := by decide +kernel
theorem dX4_init_1 : decode cX4_init 1 = .ok (.invokespecial 3, 3) := by decide +kernel
theorem dX4_init_4 : decode cX4_init 4 = .ok (.aload_n 0, 1) := by decide +kernel
theorem dX4_init_5 : decode cX4_init 5 = .ok (.bipush 6, 2) := by decide +kernel
theorem dX4_init_7 : decode cX4_init 7 = .ok (.newarray .int, 2) := by decide +kernel
theorem dX4_init_9 : decode cX4_init 9 = .ok (.putfield 9, 3) := by decide +kernel
theorem dX4_init_12 : decode cX4_init 12 = .ok (.aload_n 0, 1) := by decide +kernel
theorem dX4_init_13 : decode cX4_init 13 = .ok (.bipush 6, 2) := by decide +kernel
theorem dX4_init_15 : decode cX4_init 15 = .ok (.newarray .int, 2) := by decide +kernel
theorem dX4_init_17 : decode cX4_init 17 = .ok (.putfield 15, 3) := by decide +kernel
theorem dX4_init_20 : decode cX4_init 20 = .ok (.aload_n 0, 1) := by decide +kernel
theorem dX4_init_21 : decode cX4_init 21 = .ok (.bipush 12, 2) := by decide +kernel
theorem dX4_init_23 : decode cX4_init 23 = .ok (.newarray .int, 2) := by decide +kernel
theorem dX4_init_25 : decode cX4_init 25 = .ok (.putfield 18, 3) := by decide +kernel
theorem dX4_init_28 : decode cX4_init 28 = .ok (.aload_n 0, 1) := by decide +kernel
theorem dX4_init_29 : decode cX4_init 29 = .ok (.bipush 8, 2) := by decide +kernel
theorem dX4_init_31 : decode cX4_init 31 = .ok (.anewarray 21, 3) := by decide +kernel
theorem dX4_init_34 : decode cX4_init 34 = .ok (.putfield 23, 3) := by decide +kernel
theorem dX4_init_37 : decode cX4_init 37 = .ok (.aload_n 0, 1) := by decide +kernel
theorem dX4_init_38 : decode cX4_init 38 = .ok (.getfield 15, 3) := by decide +kernel
theorem dX4_init_41 : decode cX4_init 41 = .ok (.iconst 1, 1) := by decide +kernel
theorem dX4_init_42 : decode cX4_init 42 = .ok (.invokestatic 27, 3) := by decide +kernel
theorem dX4_init_45 : decode cX4_init 45 = .ok (.return_, 1) := by decide +kernel
theorem dX4_reportOf_0 : decode cX4_reportOf 0 = .ok (.iload_n 1, 1) := by decide +kernel
theorem dX4_reportOf_1 : decode cX4_reportOf 1 = .ok (.ifCond .lt 18, 3) := by decide +kernel
theorem dX4_reportOf_4 : decode cX4_reportOf 4 = .ok (.iload_n 1, 1) := by decide +kernel
theorem dX4_reportOf_5 : decode cX4_reportOf 5 = .ok (.bipush 8, 2) := by decide +kernel
theorem dX4_reportOf_7 : decode cX4_reportOf 7 = .ok (.if_icmp .ge 12, 3) := by decide +kernel
theorem dX4_reportOf_10 : decode cX4_reportOf 10 = .ok (.aload_n 0, 1) := by decide +kernel
theorem dX4_reportOf_11 : decode cX4_reportOf 11 = .ok (.getfield 23, 3) := by decide +kernel
theorem dX4_reportOf_14 : decode cX4_reportOf 14 = .ok (.iload_n 1, 1) := by decide +kernel
theorem dX4_reportOf_15 : decode cX4_reportOf 15 = .ok (.aaload, 1) := by decide +kernel
theorem dX4_reportOf_16 : decode cX4_reportOf 16 = .ok (.goto 4, 3) := by decide +kernel
theorem dX4_reportOf_19 : decode cX4_reportOf 19 = .ok (.aconst_null, 1) := by decide +kernel
theorem dX4_reportOf_20 : decode cX4_reportOf 20 = .ok (.areturn, 1) := by decide +kernel
theorem dX4_owedByAll_0 : decode cX4_owedByAll 0 = .ok (.iconst 0, 1) := by decide +kernel
theorem dX4_owedByAll_1 : decode cX4_owedByAll 1 = .ok (.istore_n 1, 1) := by decide +kernel
theorem dX4_owedByAll_2 : decode cX4_owedByAll 2 = .ok (.iconst 0, 1) := by decide +kernel
theorem dX4_owedByAll_3 : decode cX4_owedByAll 3 = .ok (.istore_n 2, 1) := by decide +kernel
theorem dX4_owedByAll_4 : decode cX4_owedByAll 4 = .ok (.iload_n 2, 1) := by decide +kernel
theorem dX4_owedByAll_5 : decode cX4_owedByAll 5 = .ok (.bipush 12, 2) := by decide +kernel
theorem dX4_owedByAll_7 : decode cX4_owedByAll 7 = .ok (.if_icmp .ge 18, 3) := by decide +kernel
theorem dX4_owedByAll_10 : decode cX4_owedByAll 10 = .ok (.iload_n 1, 1) := by decide +kernel
theorem dX4_owedByAll_11 : decode cX4_owedByAll 11 = .ok (.aload_n 0, 1) := by decide +kernel
theorem dX4_owedByAll_12 : decode cX4_owedByAll 12 = .ok (.getfield 18, 3) := by decide +kernel
theorem dX4_owedByAll_15 : decode cX4_owedByAll 15 = .ok (.iload_n 2, 1) := by decide +kernel
theorem dX4_owedByAll_16 : decode cX4_owedByAll 16 = .ok (.iaload, 1) := by decide +kernel
theorem dX4_owedByAll_17 : decode cX4_owedByAll 17 = .ok (.iadd, 1) := by decide +kernel
theorem dX4_owedByAll_18 : decode cX4_owedByAll 18 = .ok (.istore_n 1, 1) := by decide +kernel
theorem dX4_owedByAll_19 : decode cX4_owedByAll 19 = .ok (.iinc 2 1, 3) := by decide +kernel
theorem dX4_owedByAll_22 : decode cX4_owedByAll 22 = .ok (.goto (-18), 3) := by decide +kernel
theorem dX4_owedByAll_25 : decode cX4_owedByAll 25 = .ok (.iload_n 1, 1) := by decide +kernel
theorem dX4_owedByAll_26 : decode cX4_owedByAll 26 = .ok (.ireturn, 1) := by decide +kernel
set_option maxRecDepth 20000 in
set_option maxRecDepth 100000 in
theorem ggX5_init_X2_init : GoodIn wsX5_init wsX2_init := goodIn_r _ [6, 7, 8, 9, 10, 11, 12, 13, 20, 21, 22, 23, 24, 25, 26, 27, 28, 29, 30, 31, 14, 15, 16, 17, 18, 19] rfl (by decide +kernel)
set_option maxRecDepth 20000 in
theorem gX5_init_X2_init : GoodIn wsX5_init (wsX2_init) := ggX5_init_X2_init
theorem dX5_init_0 : decode cX5_init 0 = .ok (.aload_n 0, 1) := by decide +kernel
theorem dX5_init_1 : decode cX5_init 1 = .ok (.iload_n 1, 1) := by decide +kernel
theorem dX5_init_2 : decode cX5_init 2 = .ok (.iload_n 2, 1) := by decide +kernel
theorem dX5_init_3 : decode cX5_init 3 = .ok (.invokespecial 3, 3) := by decide +kernel
theorem dX5_init_6 : decode cX5_init 6 = .ok (.aload_n 0, 1) := by decide +kernel
theorem dX5_init_7 : decode cX5_init 7 = .ok (.iload_n 3, 1) := by decide +kernel
theorem dX5_init_8 : decode cX5_init 8 = .ok (.putfield 9, 3) := by decide +kernel
theorem dX5_init_11 : decode cX5_init 11 = .ok (.aload_n 0, 1) := by decide +kernel
theorem dX5_init_12 : decode cX5_init 12 = .ok (.aload 4, 2) := by decide +kernel
theorem dX5_init_14 : decode cX5_init 14 = .ok (.putfield 15, 3) := by decide +kernel
theorem dX5_init_17 : decode cX5_init 17 = .ok (.return_, 1) := by decide +kernel
set_option maxRecDepth 20000 in
set_option maxRecDepth 100000 in
theorem ggX5_readAt_X4_reportOf : GoodIn wsX5_readAt wsX4_reportOf := goodIn_r _ [9, 10, 29, 30, 31, 32] rfl (by decide +kernel)
set_option maxRecDepth 20000 in
theorem gX5_readAt_X4_reportOf : GoodIn wsX5_readAt (wsV RX5 22 RX4 yX4_reportOf wsX4_reportOf) := goodIn_app (goodIn_of _ (by decide +kernel)) ggX5_readAt_X4_reportOf
theorem dX5_readAt_0 : decode cX5_readAt 0 = .ok (.aload_n 1, 1) := by decide +kernel
theorem dX5_readAt_1 : decode cX5_readAt 1 = .ok (.aload_n 0, 1) := by decide +kernel
theorem dX5_readAt_2 : decode cX5_readAt 2 = .ok (.getfield 19, 3) := by decide +kernel
theorem dX5_readAt_5 : decode cX5_readAt 5 = .ok (.invokevirtual 22, 3) := by decide +kernel
theorem dX5_readAt_8 : decode cX5_readAt 8 = .ok (.astore_n 2, 1) := by decide +kernel
theorem dX5_readAt_9 : decode cX5_readAt 9 = .ok (.aload_n 0, 1) := by decide +kernel
theorem dX5_readAt_10 : decode cX5_readAt 10 = .ok (.getfield 19, 3) := by decide +kernel
theorem dX5_readAt_13 : decode cX5_readAt 13 = .ok (.ifCond .lt 37, 3) := by decide +kernel
theorem dX5_readAt_16 : decode cX5_readAt 16 = .ok (.aload_n 0, 1) := by decide +kernel
theorem dX5_readAt_17 : decode cX5_readAt 17 = .ok (.getfield 19, 3) := by decide +kernel
theorem dX5_readAt_20 : decode cX5_readAt 20 = .ok (.bipush 8, 2) := by decide +kernel
theorem dX5_readAt_22 : decode cX5_readAt 22 = .ok (.if_icmp .ge 28, 3) := by decide +kernel
theorem dX5_readAt_25 : decode cX5_readAt 25 = .ok (.aload_n 2, 1) := by decide +kernel
theorem dX5_readAt_26 : decode cX5_readAt 26 = .ok (.ifnull 14, 3) := by decide +kernel
theorem dX5_readAt_29 : decode cX5_readAt 29 = .ok (.aload_n 0, 1) := by decide +kernel
theorem dX5_readAt_30 : decode cX5_readAt 30 = .ok (.getfield 9, 3) := by decide +kernel
theorem dX5_readAt_33 : decode cX5_readAt 33 = .ok (.aload_n 2, 1) := by decide +kernel
theorem dX5_readAt_34 : decode cX5_readAt 34 = .ok (.getfield 9, 3) := by decide +kernel
theorem dX5_readAt_37 : decode cX5_readAt 37 = .ok (.if_icmp .lt 13, 3) := by decide +kernel
theorem dX5_readAt_40 : decode cX5_readAt 40 = .ok (.aload_n 1, 1) := by decide +kernel
theorem dX5_readAt_41 : decode cX5_readAt 41 = .ok (.getfield 28, 3) := by decide +kernel
theorem dX5_readAt_44 : decode cX5_readAt 44 = .ok (.aload_n 0, 1) := by decide +kernel
theorem dX5_readAt_45 : decode cX5_readAt 45 = .ok (.getfield 19, 3) := by decide +kernel
theorem dX5_readAt_48 : decode cX5_readAt 48 = .ok (.aload_n 0, 1) := by decide +kernel
theorem dX5_readAt_49 : decode cX5_readAt 49 = .ok (.aastore, 1) := by decide +kernel
theorem dX5_readAt_50 : decode cX5_readAt 50 = .ok (.return_, 1) := by decide +kernel
theorem dX6_init_0 : decode cX6_init 0 = .ok (.aload_n 0, 1) := by decide +kernel
theorem dX6_init_1 : decode cX6_init 1 = .ok (.invokespecial 3, 3) := by decide +kernel
theorem dX6_init_4 : decode cX6_init 4 = .ok (.aload_n 0, 1) := by decide +kernel
theorem dX6_init_5 : decode cX6_init 5 = .ok (.iload_n 1, 1) := by decide +kernel
theorem dX6_init_6 : decode cX6_init 6 = .ok (.putfield 9, 3) := by decide +kernel
theorem dX6_init_9 : decode cX6_init 9 = .ok (.aload_n 0, 1) := by decide +kernel
theorem dX6_init_10 : decode cX6_init 10 = .ok (.iload_n 2, 1) := by decide +kernel
theorem dX6_init_11 : decode cX6_init 11 = .ok (.putfield 15, 3) := by decide +kernel
theorem dX6_init_14 : decode cX6_init 14 = .ok (.aload_n 0, 1) := by decide +kernel
theorem dX6_init_15 : decode cX6_init 15 = .ok (.iload_n 3, 1) := by decide +kernel
theorem dX6_init_16 : decode cX6_init 16 = .ok (.putfield 18, 3) := by decide +kernel
theorem dX6_init_19 : decode cX6_init 19 = .ok (.aload_n 0, 1) := by decide +kernel
theorem dX6_init_20 : decode cX6_init 20 = .ok (.iload 4, 2) := by decide +kernel
theorem dX6_init_22 : decode cX6_init 22 = .ok (.putfield 21, 3) := by decide +kernel
theorem dX6_init_25 : decode cX6_init 25 = .ok (.aload_n 0, 1) := by decide +kernel
theorem dX6_init_26 : decode cX6_init 26 = .ok (.iload 5, 2) := by decide +kernel
theorem dX6_init_28 : decode cX6_init 28 = .ok (.putfield 24, 3) := by decide +kernel
theorem dX6_init_31 : decode cX6_init 31 = .ok (.aload_n 0, 1) := by decide +kernel
theorem dX6_init_32 : decode cX6_init 32 = .ok (.iload 6, 2) := by decide +kernel
theorem dX6_init_34 : decode cX6_init 34 = .ok (.putfield 27, 3) := by decide +kernel
theorem dX6_init_37 : decode cX6_init 37 = .ok (.return_, 1) := by decide +kernel
theorem dX6_startsAt_0 : decode cX6_startsAt 0 = .ok (.iload_n 1, 1) := by decide +kernel
theorem dX6_startsAt_1 : decode cX6_startsAt 1 = .ok (.aload_n 0, 1) := by decide +kernel
theorem dX6_startsAt_2 : decode cX6_startsAt 2 = .ok (.getfield 9, 3) := by decide +kernel
theorem dX6_startsAt_5 : decode cX6_startsAt 5 = .ok (.if_icmp .eq 11, 3) := by decide +kernel
theorem dX6_startsAt_8 : decode cX6_startsAt 8 = .ok (.iload_n 1, 1) := by decide +kernel
theorem dX6_startsAt_9 : decode cX6_startsAt 9 = .ok (.aload_n 0, 1) := by decide +kernel
theorem dX6_startsAt_10 : decode cX6_startsAt 10 = .ok (.getfield 15, 3) := by decide +kernel
theorem dX6_startsAt_13 : decode cX6_startsAt 13 = .ok (.if_icmp .ne 7, 3) := by decide +kernel
theorem dX6_startsAt_16 : decode cX6_startsAt 16 = .ok (.iconst 1, 1) := by decide +kernel
theorem dX6_startsAt_17 : decode cX6_startsAt 17 = .ok (.goto 4, 3) := by decide +kernel
theorem dX6_startsAt_20 : decode cX6_startsAt 20 = .ok (.iconst 0, 1) := by decide +kernel
theorem dX6_startsAt_21 : decode cX6_startsAt 21 = .ok (.ireturn, 1) := by decide +kernel
theorem dX6_otherEnd_0 : decode cX6_otherEnd 0 = .ok (.iload_n 1, 1) := by decide +kernel
theorem dX6_otherEnd_1 : decode cX6_otherEnd 1 = .ok (.aload_n 0, 1) := by decide +kernel
theorem dX6_otherEnd_2 : decode cX6_otherEnd 2 = .ok (.getfield 9, 3) := by decide +kernel
theorem dX6_otherEnd_5 : decode cX6_otherEnd 5 = .ok (.if_icmp .ne 10, 3) := by decide +kernel
theorem dX6_otherEnd_8 : decode cX6_otherEnd 8 = .ok (.aload_n 0, 1) := by decide +kernel
theorem dX6_otherEnd_9 : decode cX6_otherEnd 9 = .ok (.getfield 15, 3) := by decide +kernel
theorem dX6_otherEnd_12 : decode cX6_otherEnd 12 = .ok (.goto 7, 3) := by decide +kernel
theorem dX6_otherEnd_15 : decode cX6_otherEnd 15 = .ok (.aload_n 0, 1) := by decide +kernel
theorem dX6_otherEnd_16 : decode cX6_otherEnd 16 = .ok (.getfield 9, 3) := by decide +kernel
theorem dX6_otherEnd_19 : decode cX6_otherEnd 19 = .ok (.ireturn, 1) := by decide +kernel
set_option maxRecDepth 20000 in
set_option maxRecDepth 100000 in
theorem ggX6_isOpenOn_X7_isWithin : GoodIn wsX6_isOpenOn wsX7_isWithin := goodIn_r _ [5] rfl (by decide +kernel)
set_option maxRecDepth 20000 in
theorem gX6_isOpenOn_X7_isWithin_n30 : GoodIn wsX6_isOpenOn (wsX7_isWithin) := ggX6_isOpenOn_X7_isWithin
theorem dX6_isOpenOn_0 : decode cX6_isOpenOn 0 = .ok (.iload_n 1, 1) := by decide +kernel
theorem dX6_isOpenOn_1 : decode cX6_isOpenOn 1 = .ok (.sipush 365, 3) := by decide +kernel
theorem dX6_isOpenOn_4 : decode cX6_isOpenOn 4 = .ok (.irem, 1) := by decide +kernel
theorem dX6_isOpenOn_5 : decode cX6_isOpenOn 5 = .ok (.aload_n 0, 1) := by decide +kernel
theorem dX6_isOpenOn_6 : decode cX6_isOpenOn 6 = .ok (.getfield 21, 3) := by decide +kernel
theorem dX6_isOpenOn_9 : decode cX6_isOpenOn 9 = .ok (.aload_n 0, 1) := by decide +kernel
theorem dX6_isOpenOn_10 : decode cX6_isOpenOn 10 = .ok (.getfield 24, 3) := by decide +kernel
theorem dX6_isOpenOn_13 : decode cX6_isOpenOn 13 = .ok (.invokestatic 30, 3) := by decide +kernel
theorem dX6_isOpenOn_16 : decode cX6_isOpenOn 16 = .ok (.ireturn, 1) := by decide +kernel
set_option maxRecDepth 20000 in
set_option maxRecDepth 100000 in
theorem ggX7_init_J7_fill_53178 : GoodIn wsX7_init wsJ7_fill_53178 := goodIn_r _ [21] rfl (by decide +kernel)
set_option maxRecDepth 20000 in
theorem gX7_init_J7_fill_53178 : GoodIn wsX7_init (va_wsS RX7 48 yJ7_fill_53178 wsJ7_fill_53178) := goodIn_app (goodIn_of _ (by decide +kernel)) ggX7_init_J7_fill_53178
theorem dX7_init_0 : decode cX7_init 0 = .ok (.aload_n 0, 1) := by decide +kernel
theorem dX7_init_1 : decode cX7_init 1 = .ok (.invokespecial 1, 3) := by decide +kernel
theorem dX7_init_4 : decode cX7_init 4 = .ok (.aload_n 0, 1) := by decide +kernel
theorem dX7_init_5 : decode cX7_init 5 = .ok (.bipush 8, 2) := by decide +kernel
theorem dX7_init_7 : decode cX7_init 7 = .ok (.anewarray 9, 3) := by decide +kernel
theorem dX7_init_10 : decode cX7_init 10 = .ok (.putfield 11, 3) := by decide +kernel
theorem dX7_init_13 : decode cX7_init 13 = .ok (.aload_n 0, 1) := by decide +kernel
theorem dX7_init_14 : decode cX7_init 14 = .ok (.bipush 12, 2) := by decide +kernel
theorem dX7_init_16 : decode cX7_init 16 = .ok (.anewarray 15, 3) := by decide +kernel
theorem dX7_init_19 : decode cX7_init 19 = .ok (.putfield 17, 3) := by decide +kernel
theorem dX7_init_22 : decode cX7_init 22 = .ok (.aload_n 0, 1) := by decide +kernel
theorem dX7_init_23 : decode cX7_init 23 = .ok (.bipush 120, 2) := by decide +kernel
theorem dX7_init_25 : decode cX7_init 25 = .ok (.anewarray 21, 3) := by decide +kernel
theorem dX7_init_28 : decode cX7_init 28 = .ok (.putfield 23, 3) := by decide +kernel
theorem dX7_init_31 : decode cX7_init 31 = .ok (.aload_n 0, 1) := by decide +kernel
theorem dX7_init_32 : decode cX7_init 32 = .ok (.sipush 300, 3) := by decide +kernel
theorem dX7_init_35 : decode cX7_init 35 = .ok (.anewarray 27, 3) := by decide +kernel
theorem dX7_init_38 : decode cX7_init 38 = .ok (.putfield 29, 3) := by decide +kernel
theorem dX7_init_41 : decode cX7_init 41 = .ok (.aload_n 0, 1) := by decide +kernel
theorem dX7_init_42 : decode cX7_init 42 = .ok (.bipush 8, 2) := by decide +kernel
theorem dX7_init_44 : decode cX7_init 44 = .ok (.bipush 8, 2) := by decide +kernel
theorem dX7_init_46 : decode cX7_init 46 = .ok (.multianewarray 33 2, 4) := by decide +kernel
theorem dX7_init_50 : decode cX7_init 50 = .ok (.putfield 35, 3) := by decide +kernel
theorem dX7_init_53 : decode cX7_init 53 = .ok (.aload_n 0, 1) := by decide +kernel
theorem dX7_init_54 : decode cX7_init 54 = .ok (.bipush 6, 2) := by decide +kernel
theorem dX7_init_56 : decode cX7_init 56 = .ok (.bipush 21, 2) := by decide +kernel
theorem dX7_init_58 : decode cX7_init 58 = .ok (.multianewarray 33 2, 4) := by decide +kernel
theorem dX7_init_62 : decode cX7_init 62 = .ok (.putfield 38, 3) := by decide +kernel
theorem dX7_init_65 : decode cX7_init 65 = .ok (.aload_n 0, 1) := by decide +kernel
theorem dX7_init_66 : decode cX7_init 66 = .ok (.bipush 6, 2) := by decide +kernel
theorem dX7_init_68 : decode cX7_init 68 = .ok (.bipush 6, 2) := by decide +kernel
theorem dX7_init_70 : decode cX7_init 70 = .ok (.multianewarray 33 2, 4) := by decide +kernel
theorem dX7_init_74 : decode cX7_init 74 = .ok (.putfield 41, 3) := by decide +kernel
theorem dX7_init_77 : decode cX7_init 77 = .ok (.aload_n 0, 1) := by decide +kernel
theorem dX7_init_78 : decode cX7_init 78 = .ok (.bipush 6, 2) := by decide +kernel
theorem dX7_init_80 : decode cX7_init 80 = .ok (.newarray .int, 2) := by decide +kernel
theorem dX7_init_82 : decode cX7_init 82 = .ok (.putfield 44, 3) := by decide +kernel
theorem dX7_init_85 : decode cX7_init 85 = .ok (.iconst 0, 1) := by decide +kernel
theorem dX7_init_86 : decode cX7_init 86 = .ok (.istore_n 1, 1) := by decide +kernel
theorem dX7_init_87 : decode cX7_init 87 = .ok (.iload_n 1, 1) := by decide +kernel
theorem dX7_init_88 : decode cX7_init 88 = .ok (.bipush 8, 2) := by decide +kernel
theorem dX7_init_90 : decode cX7_init 90 = .ok (.if_icmp .ge 29, 3) := by decide +kernel
theorem dX7_init_93 : decode cX7_init 93 = .ok (.aload_n 0, 1) := by decide +kernel
theorem dX7_init_94 : decode cX7_init 94 = .ok (.getfield 35, 3) := by decide +kernel
theorem dX7_init_97 : decode cX7_init 97 = .ok (.iload_n 1, 1) := by decide +kernel
theorem dX7_init_98 : decode cX7_init 98 = .ok (.aaload, 1) := by decide +kernel
theorem dX7_init_99 : decode cX7_init 99 = .ok (.bipush 100, 2) := by decide +kernel
theorem dX7_init_101 : decode cX7_init 101 = .ok (.invokestatic 48, 3) := by decide +kernel
theorem dX7_init_104 : decode cX7_init 104 = .ok (.aload_n 0, 1) := by decide +kernel
theorem dX7_init_105 : decode cX7_init 105 = .ok (.getfield 35, 3) := by decide +kernel
theorem dX7_init_108 : decode cX7_init 108 = .ok (.iload_n 1, 1) := by decide +kernel
theorem dX7_init_109 : decode cX7_init 109 = .ok (.aaload, 1) := by decide +kernel
theorem dX7_init_110 : decode cX7_init 110 = .ok (.iload_n 1, 1) := by decide +kernel
theorem dX7_init_111 : decode cX7_init 111 = .ok (.iconst 0, 1) := by decide +kernel
theorem dX7_init_112 : decode cX7_init 112 = .ok (.iastore, 1) := by decide +kernel
theorem dX7_init_113 : decode cX7_init 113 = .ok (.iinc 1 1, 3) := by decide +kernel
theorem dX7_init_116 : decode cX7_init 116 = .ok (.goto (-29), 3) := by decide +kernel
theorem dX7_init_119 : decode cX7_init 119 = .ok (.return_, 1) := by decide +kernel
set_option maxRecDepth 20000 in
set_option maxRecDepth 100000 in
theorem ggX7_post_X4_init : GoodIn wsX7_post wsX4_init := goodIn_r _ [8, 9, 10, 11, 12, 13, 14, 15, 16, 17, 18, 19, 20, 21, 36, 37, 38, 39] rfl (by decide +kernel)
set_option maxRecDepth 20000 in
theorem gX7_post_X4_init : GoodIn wsX7_post (wsX4_init) := ggX7_post_X4_init
theorem dX7_post_0 : decode cX7_post 0 = .ok (.aload_n 0, 1) := by decide +kernel
theorem dX7_post_1 : decode cX7_post 1 = .ok (.getfield 54, 3) := by decide +kernel
theorem dX7_post_4 : decode cX7_post 4 = .ok (.bipush 8, 2) := by decide +kernel
theorem dX7_post_6 : decode cX7_post 6 = .ok (.if_icmp .lt 5, 3) := by decide +kernel
theorem dX7_post_9 : decode cX7_post 9 = .ok (.iconst (-1), 1) := by decide +kernel
theorem dX7_post_10 : decode cX7_post 10 = .ok (.ireturn, 1) := by decide +kernel
theorem dX7_post_11 : decode cX7_post 11 = .ok (.aload_n 0, 1) := by decide +kernel
theorem dX7_post_12 : decode cX7_post 12 = .ok (.getfield 11, 3) := by decide +kernel
theorem dX7_post_15 : decode cX7_post 15 = .ok (.aload_n 0, 1) := by decide +kernel
theorem dX7_post_16 : decode cX7_post 16 = .ok (.getfield 54, 3) := by decide +kernel
theorem dX7_post_19 : decode cX7_post 19 = .ok (.new 9, 3) := by decide +kernel
theorem dX7_post_22 : decode cX7_post 22 = .ok (.dup, 1) := by decide +kernel
theorem dX7_post_23 : decode cX7_post 23 = .ok (.invokespecial 58, 3) := by decide +kernel
theorem dX7_post_26 : decode cX7_post 26 = .ok (.aastore, 1) := by decide +kernel
theorem dX7_post_27 : decode cX7_post 27 = .ok (.aload_n 0, 1) := by decide +kernel
theorem dX7_post_28 : decode cX7_post 28 = .ok (.dup, 1) := by decide +kernel
theorem dX7_post_29 : decode cX7_post 29 = .ok (.getfield 54, 3) := by decide +kernel
theorem dX7_post_32 : decode cX7_post 32 = .ok (.iconst 1, 1) := by decide +kernel
theorem dX7_post_33 : decode cX7_post 33 = .ok (.iadd, 1) := by decide +kernel
theorem dX7_post_34 : decode cX7_post 34 = .ok (.putfield 54, 3) := by decide +kernel
theorem dX7_post_37 : decode cX7_post 37 = .ok (.aload_n 0, 1) := by decide +kernel
theorem dX7_post_38 : decode cX7_post 38 = .ok (.getfield 54, 3) := by decide +kernel
theorem dX7_post_41 : decode cX7_post 41 = .ok (.iconst 1, 1) := by decide +kernel
theorem dX7_post_42 : decode cX7_post 42 = .ok (.isub, 1) := by decide +kernel
theorem dX7_post_43 : decode cX7_post 43 = .ok (.ireturn, 1) := by decide +kernel
set_option maxRecDepth 20000 in
set_option maxRecDepth 100000 in
theorem ggX7_way_X7_areTwoPosts : GoodIn wsX7_way wsX7_areTwoPosts := goodIn_r _ [12, 13, 14, 15, 11, 16, 17, 41, 42, 43, 44, 45, 46, 47, 48, 49, 50, 51, 52, 53, 54] rfl (by decide +kernel)
set_option maxRecDepth 20000 in
theorem gX7_way_X7_areTwoPosts : GoodIn wsX7_way (wsV RX7 59 RX7 yX7_areTwoPosts wsX7_areTwoPosts) := goodIn_app (goodIn_of _ (by decide +kernel)) ggX7_way_X7_areTwoPosts
set_option maxRecDepth 20000 in
set_option maxRecDepth 100000 in
theorem ggX7_way_X7_isWithin : GoodIn wsX7_way wsX7_isWithin := goodIn_r _ [20] rfl (by decide +kernel)
set_option maxRecDepth 20000 in
theorem gX7_way_X7_isWithin : GoodIn wsX7_way (va_wsS RX7 66 yX7_isWithin wsX7_isWithin) := goodIn_app (goodIn_of _ (by decide +kernel)) ggX7_way_X7_isWithin
set_option maxRecDepth 20000 in
set_option maxRecDepth 100000 in
theorem ggX7_way_X6_init : GoodIn wsX7_way wsX6_init := goodIn_r _ [23, 24, 25, 26, 27, 28, 29, 30, 31, 32, 55, 56, 57, 58, 59, 60] rfl (by decide +kernel)
set_option maxRecDepth 20000 in
theorem gX7_way_X6_init : GoodIn wsX7_way (wsX6_init) := ggX7_way_X6_init
set_option maxRecDepth 20000 in
set_option maxRecDepth 100000 in
theorem ggX7_way_X7_shortenDistances : GoodIn wsX7_way wsX7_shortenDistances := goodIn_r _ [36, 1, 37, 38, 39, 40, 41, 42, 43, 44, 45, 46, 47, 48, 49, 50, 51, 52, 53, 54] rfl (by decide +kernel)
set_option maxRecDepth 20000 in
theorem gX7_way_X7_shortenDistances : GoodIn wsX7_way (wsV RX7 74 RX7 yX7_shortenDistances wsX7_shortenDistances) := goodIn_app (goodIn_of _ (by decide +kernel)) ggX7_way_X7_shortenDistances
theorem dX7_way_0 : decode cX7_way 0 = .ok (.aload_n 0, 1) := by decide +kernel
theorem dX7_way_1 : decode cX7_way 1 = .ok (.iload_n 1, 1) := by decide +kernel
theorem dX7_way_2 : decode cX7_way 2 = .ok (.iload_n 2, 1) := by decide +kernel
theorem dX7_way_3 : decode cX7_way 3 = .ok (.invokevirtual 59, 3) := by decide +kernel
theorem dX7_way_6 : decode cX7_way 6 = .ok (.ifCond .eq 24, 3) := by decide +kernel
theorem dX7_way_9 : decode cX7_way 9 = .ok (.aload_n 0, 1) := by decide +kernel
theorem dX7_way_10 : decode cX7_way 10 = .ok (.getfield 35, 3) := by decide +kernel
theorem dX7_way_13 : decode cX7_way 13 = .ok (.iload_n 1, 1) := by decide +kernel
theorem dX7_way_14 : decode cX7_way 14 = .ok (.aaload, 1) := by decide +kernel
theorem dX7_way_15 : decode cX7_way 15 = .ok (.iload_n 2, 1) := by decide +kernel
theorem dX7_way_16 : decode cX7_way 16 = .ok (.iaload, 1) := by decide +kernel
theorem dX7_way_17 : decode cX7_way 17 = .ok (.iconst 1, 1) := by decide +kernel
theorem dX7_way_18 : decode cX7_way 18 = .ok (.if_icmp .eq 12, 3) := by decide +kernel
theorem dX7_way_21 : decode cX7_way 21 = .ok (.aload_n 0, 1) := by decide +kernel
theorem dX7_way_22 : decode cX7_way 22 = .ok (.getfield 63, 3) := by decide +kernel
theorem dX7_way_25 : decode cX7_way 25 = .ok (.bipush 12, 2) := by decide +kernel
theorem dX7_way_27 : decode cX7_way 27 = .ok (.if_icmp .lt 5, 3) := by decide +kernel
theorem dX7_way_30 : decode cX7_way 30 = .ok (.iconst (-1), 1) := by decide +kernel
theorem dX7_way_31 : decode cX7_way 31 = .ok (.ireturn, 1) := by decide +kernel
theorem dX7_way_32 : decode cX7_way 32 = .ok (.iload_n 3, 1) := by decide +kernel
theorem dX7_way_33 : decode cX7_way 33 = .ok (.ifCond .lt 15, 3) := by decide +kernel
theorem dX7_way_36 : decode cX7_way 36 = .ok (.iload 4, 2) := by decide +kernel
theorem dX7_way_38 : decode cX7_way 38 = .ok (.iconst 1, 1) := by decide +kernel
theorem dX7_way_39 : decode cX7_way 39 = .ok (.sipush 500, 3) := by decide +kernel
theorem dX7_way_42 : decode cX7_way 42 = .ok (.invokestatic 66, 3) := by decide +kernel
theorem dX7_way_45 : decode cX7_way 45 = .ok (.ifCond .ne 5, 3) := by decide +kernel
theorem dX7_way_48 : decode cX7_way 48 = .ok (.iconst (-1), 1) := by decide +kernel
theorem dX7_way_49 : decode cX7_way 49 = .ok (.ireturn, 1) := by decide +kernel
theorem dX7_way_50 : decode cX7_way 50 = .ok (.iload_n 3, 1) := by decide +kernel
theorem dX7_way_51 : decode cX7_way 51 = .ok (.ldc 70, 2) := by decide +kernel
theorem dX7_way_53 : decode cX7_way 53 = .ok (.idiv, 1) := by decide +kernel
theorem dX7_way_54 : decode cX7_way 54 = .ok (.istore 5, 2) := by decide +kernel
theorem dX7_way_56 : decode cX7_way 56 = .ok (.iload_n 3, 1) := by decide +kernel
theorem dX7_way_57 : decode cX7_way 57 = .ok (.sipush 1000, 3) := by decide +kernel
theorem dX7_way_60 : decode cX7_way 60 = .ok (.idiv, 1) := by decide +kernel
theorem dX7_way_61 : decode cX7_way 61 = .ok (.sipush 1000, 3) := by decide +kernel
theorem dX7_way_64 : decode cX7_way 64 = .ok (.irem, 1) := by decide +kernel
theorem dX7_way_65 : decode cX7_way 65 = .ok (.istore 6, 2) := by decide +kernel
theorem dX7_way_67 : decode cX7_way 67 = .ok (.iload_n 3, 1) := by decide +kernel
theorem dX7_way_68 : decode cX7_way 68 = .ok (.sipush 1000, 3) := by decide +kernel
theorem dX7_way_71 : decode cX7_way 71 = .ok (.irem, 1) := by decide +kernel
theorem dX7_way_72 : decode cX7_way 72 = .ok (.istore 7, 2) := by decide +kernel
theorem dX7_way_74 : decode cX7_way 74 = .ok (.iload 5, 2) := by decide +kernel
theorem dX7_way_76 : decode cX7_way 76 = .ok (.iconst 1, 1) := by decide +kernel
theorem dX7_way_77 : decode cX7_way 77 = .ok (.bipush 40, 2) := by decide +kernel
theorem dX7_way_79 : decode cX7_way 79 = .ok (.invokestatic 66, 3) := by decide +kernel
theorem dX7_way_82 : decode cX7_way 82 = .ok (.ifCond .eq 18, 3) := by decide +kernel
theorem dX7_way_85 : decode cX7_way 85 = .ok (.iload 6, 2) := by decide +kernel
theorem dX7_way_87 : decode cX7_way 87 = .ok (.iload 7, 2) := by decide +kernel
theorem dX7_way_89 : decode cX7_way 89 = .ok (.if_icmp .gt 11, 3) := by decide +kernel
theorem dX7_way_92 : decode cX7_way 92 = .ok (.iload 7, 2) := by decide +kernel
theorem dX7_way_94 : decode cX7_way 94 = .ok (.sipush 365, 3) := by decide +kernel
theorem dX7_way_97 : decode cX7_way 97 = .ok (.if_icmp .lt 5, 3) := by decide +kernel
theorem dX7_way_100 : decode cX7_way 100 = .ok (.iconst (-1), 1) := by decide +kernel
theorem dX7_way_101 : decode cX7_way 101 = .ok (.ireturn, 1) := by decide +kernel
theorem dX7_way_102 : decode cX7_way 102 = .ok (.aload_n 0, 1) := by decide +kernel
theorem dX7_way_103 : decode cX7_way 103 = .ok (.getfield 17, 3) := by decide +kernel
theorem dX7_way_106 : decode cX7_way 106 = .ok (.aload_n 0, 1) := by decide +kernel
theorem dX7_way_107 : decode cX7_way 107 = .ok (.getfield 63, 3) := by decide +kernel
theorem dX7_way_110 : decode cX7_way 110 = .ok (.new 15, 3) := by decide +kernel
theorem dX7_way_113 : decode cX7_way 113 = .ok (.dup, 1) := by decide +kernel
theorem dX7_way_114 : decode cX7_way 114 = .ok (.iload_n 1, 1) := by decide +kernel
theorem dX7_way_115 : decode cX7_way 115 = .ok (.iload_n 2, 1) := by decide +kernel
theorem dX7_way_116 : decode cX7_way 116 = .ok (.iload 5, 2) := by decide +kernel
theorem dX7_way_118 : decode cX7_way 118 = .ok (.iload 6, 2) := by decide +kernel
theorem dX7_way_120 : decode cX7_way 120 = .ok (.iload 7, 2) := by decide +kernel
theorem dX7_way_122 : decode cX7_way 122 = .ok (.iload 4, 2) := by decide +kernel
theorem dX7_way_124 : decode cX7_way 124 = .ok (.invokespecial 71, 3) := by decide +kernel
theorem dX7_way_127 : decode cX7_way 127 = .ok (.aastore, 1) := by decide +kernel
theorem dX7_way_128 : decode cX7_way 128 = .ok (.aload_n 0, 1) := by decide +kernel
theorem dX7_way_129 : decode cX7_way 129 = .ok (.dup, 1) := by decide +kernel
theorem dX7_way_130 : decode cX7_way 130 = .ok (.getfield 63, 3) := by decide +kernel
theorem dX7_way_133 : decode cX7_way 133 = .ok (.iconst 1, 1) := by decide +kernel
theorem dX7_way_134 : decode cX7_way 134 = .ok (.iadd, 1) := by decide +kernel
theorem dX7_way_135 : decode cX7_way 135 = .ok (.putfield 63, 3) := by decide +kernel
theorem dX7_way_138 : decode cX7_way 138 = .ok (.aload_n 0, 1) := by decide +kernel
theorem dX7_way_139 : decode cX7_way 139 = .ok (.iload_n 1, 1) := by decide +kernel
theorem dX7_way_140 : decode cX7_way 140 = .ok (.iload_n 2, 1) := by decide +kernel
theorem dX7_way_141 : decode cX7_way 141 = .ok (.invokevirtual 74, 3) := by decide +kernel
theorem dX7_way_144 : decode cX7_way 144 = .ok (.aload_n 0, 1) := by decide +kernel
theorem dX7_way_145 : decode cX7_way 145 = .ok (.getfield 63, 3) := by decide +kernel
theorem dX7_way_148 : decode cX7_way 148 = .ok (.iconst 1, 1) := by decide +kernel
theorem dX7_way_149 : decode cX7_way 149 = .ok (.isub, 1) := by decide +kernel
theorem dX7_way_150 : decode cX7_way 150 = .ok (.ireturn, 1) := by decide +kernel
set_option maxRecDepth 20000 in
set_option maxRecDepth 100000 in
theorem ggX7_next_X7_areTwoPosts : GoodIn wsX7_next wsX7_areTwoPosts := goodIn_r _ [6, 7, 8, 9, 5, 10, 11, 12, 13, 14, 15, 16, 17, 18, 19, 20, 21, 22, 23, 24, 25] rfl (by decide +kernel)
set_option maxRecDepth 20000 in
theorem gX7_next_X7_areTwoPosts : GoodIn wsX7_next (wsV RX7 59 RX7 yX7_areTwoPosts wsX7_areTwoPosts) := goodIn_app (goodIn_of _ (by decide +kernel)) ggX7_next_X7_areTwoPosts
theorem dX7_next_0 : decode cX7_next 0 = .ok (.aload_n 0, 1) := by decide +kernel
theorem dX7_next_1 : decode cX7_next 1 = .ok (.iload_n 1, 1) := by decide +kernel
theorem dX7_next_2 : decode cX7_next 2 = .ok (.iload_n 2, 1) := by decide +kernel
theorem dX7_next_3 : decode cX7_next 3 = .ok (.invokevirtual 59, 3) := by decide +kernel
theorem dX7_next_6 : decode cX7_next 6 = .ok (.ifCond .eq 16, 3) := by decide +kernel
theorem dX7_next_9 : decode cX7_next 9 = .ok (.aload_n 0, 1) := by decide +kernel
theorem dX7_next_10 : decode cX7_next 10 = .ok (.getfield 35, 3) := by decide +kernel
theorem dX7_next_13 : decode cX7_next 13 = .ok (.iload_n 1, 1) := by decide +kernel
theorem dX7_next_14 : decode cX7_next 14 = .ok (.aaload, 1) := by decide +kernel
theorem dX7_next_15 : decode cX7_next 15 = .ok (.iload_n 2, 1) := by decide +kernel
theorem dX7_next_16 : decode cX7_next 16 = .ok (.iaload, 1) := by decide +kernel
theorem dX7_next_17 : decode cX7_next 17 = .ok (.bipush 100, 2) := by decide +kernel
theorem dX7_next_19 : decode cX7_next 19 = .ok (.if_icmp .lt 5, 3) := by decide +kernel
theorem dX7_next_22 : decode cX7_next 22 = .ok (.iconst (-1), 1) := by decide +kernel
theorem dX7_next_23 : decode cX7_next 23 = .ok (.ireturn, 1) := by decide +kernel
theorem dX7_next_24 : decode cX7_next 24 = .ok (.iconst 0, 1) := by decide +kernel
theorem dX7_next_25 : decode cX7_next 25 = .ok (.istore_n 3, 1) := by decide +kernel
theorem dX7_next_26 : decode cX7_next 26 = .ok (.iload_n 3, 1) := by decide +kernel
theorem dX7_next_27 : decode cX7_next 27 = .ok (.bipush 8, 2) := by decide +kernel
theorem dX7_next_29 : decode cX7_next 29 = .ok (.if_icmp .ge 44, 3) := by decide +kernel
theorem dX7_next_32 : decode cX7_next 32 = .ok (.aload_n 0, 1) := by decide +kernel
theorem dX7_next_33 : decode cX7_next 33 = .ok (.getfield 35, 3) := by decide +kernel
theorem dX7_next_36 : decode cX7_next 36 = .ok (.iload_n 1, 1) := by decide +kernel
theorem dX7_next_37 : decode cX7_next 37 = .ok (.aaload, 1) := by decide +kernel
theorem dX7_next_38 : decode cX7_next 38 = .ok (.iload_n 3, 1) := by decide +kernel
theorem dX7_next_39 : decode cX7_next 39 = .ok (.iaload, 1) := by decide +kernel
theorem dX7_next_40 : decode cX7_next 40 = .ok (.iconst 1, 1) := by decide +kernel
theorem dX7_next_41 : decode cX7_next 41 = .ok (.if_icmp .ne 26, 3) := by decide +kernel
theorem dX7_next_44 : decode cX7_next 44 = .ok (.aload_n 0, 1) := by decide +kernel
theorem dX7_next_45 : decode cX7_next 45 = .ok (.getfield 35, 3) := by decide +kernel
theorem dX7_next_48 : decode cX7_next 48 = .ok (.iload_n 3, 1) := by decide +kernel
theorem dX7_next_49 : decode cX7_next 49 = .ok (.aaload, 1) := by decide +kernel
theorem dX7_next_50 : decode cX7_next 50 = .ok (.iload_n 2, 1) := by decide +kernel
theorem dX7_next_51 : decode cX7_next 51 = .ok (.iaload, 1) := by decide +kernel
theorem dX7_next_52 : decode cX7_next 52 = .ok (.aload_n 0, 1) := by decide +kernel
theorem dX7_next_53 : decode cX7_next 53 = .ok (.getfield 35, 3) := by decide +kernel
theorem dX7_next_56 : decode cX7_next 56 = .ok (.iload_n 1, 1) := by decide +kernel
theorem dX7_next_57 : decode cX7_next 57 = .ok (.aaload, 1) := by decide +kernel
theorem dX7_next_58 : decode cX7_next 58 = .ok (.iload_n 2, 1) := by decide +kernel
theorem dX7_next_59 : decode cX7_next 59 = .ok (.iaload, 1) := by decide +kernel
theorem dX7_next_60 : decode cX7_next 60 = .ok (.iconst 1, 1) := by decide +kernel
theorem dX7_next_61 : decode cX7_next 61 = .ok (.isub, 1) := by decide +kernel
theorem dX7_next_62 : decode cX7_next 62 = .ok (.if_icmp .ne 5, 3) := by decide +kernel
theorem dX7_next_65 : decode cX7_next 65 = .ok (.iload_n 3, 1) := by decide +kernel
theorem dX7_next_66 : decode cX7_next 66 = .ok (.ireturn, 1) := by decide +kernel
theorem dX7_next_67 : decode cX7_next 67 = .ok (.iinc 3 1, 3) := by decide +kernel
theorem dX7_next_70 : decode cX7_next 70 = .ok (.goto (-44), 3) := by decide +kernel
theorem dX7_next_73 : decode cX7_next 73 = .ok (.iconst (-1), 1) := by decide +kernel
theorem dX7_next_74 : decode cX7_next 74 = .ok (.ireturn, 1) := by decide +kernel
theorem dX7_shortenDistances_0 : decode cX7_shortenDistances 0 = .ok (.iconst 0, 1) := by decide +kernel
theorem dX7_shortenDistances_1 : decode cX7_shortenDistances 1 = .ok (.istore_n 3, 1) := by decide +kernel
theorem dX7_shortenDistances_2 : decode cX7_shortenDistances 2 = .ok (.iload_n 3, 1) := by decide +kernel
theorem dX7_shortenDistances_3 : decode cX7_shortenDistances 3 = .ok (.bipush 8, 2) := by decide +kernel
theorem dX7_shortenDistances_5 : decode cX7_shortenDistances 5 = .ok (.if_icmp .ge 97, 3) := by decide +kernel
theorem dX7_shortenDistances_8 : decode cX7_shortenDistances 8 = .ok (.iconst 0, 1) := by decide +kernel
theorem dX7_shortenDistances_9 : decode cX7_shortenDistances 9 = .ok (.istore 4, 2) := by decide +kernel
theorem dX7_shortenDistances_11 : decode cX7_shortenDistances 11 = .ok (.iload 4, 2) := by decide +kernel
theorem dX7_shortenDistances_13 : decode cX7_shortenDistances 13 = .ok (.bipush 8, 2) := by decide +kernel
theorem dX7_shortenDistances_15 : decode cX7_shortenDistances 15 = .ok (.if_icmp .ge 81, 3) := by decide +kernel
theorem dX7_shortenDistances_18 : decode cX7_shortenDistances 18 = .ok (.aload_n 0, 1) := by decide +kernel
theorem dX7_shortenDistances_19 : decode cX7_shortenDistances 19 = .ok (.getfield 35, 3) := by decide +kernel
theorem dX7_shortenDistances_22 : decode cX7_shortenDistances 22 = .ok (.iload_n 3, 1) := by decide +kernel
theorem dX7_shortenDistances_23 : decode cX7_shortenDistances 23 = .ok (.aaload, 1) := by decide +kernel
theorem dX7_shortenDistances_24 : decode cX7_shortenDistances 24 = .ok (.iload_n 1, 1) := by decide +kernel
theorem dX7_shortenDistances_25 : decode cX7_shortenDistances 25 = .ok (.iaload, 1) := by decide +kernel
theorem dX7_shortenDistances_26 : decode cX7_shortenDistances 26 = .ok (.iconst 1, 1) := by decide +kernel
theorem dX7_shortenDistances_27 : decode cX7_shortenDistances 27 = .ok (.iadd, 1) := by decide +kernel
theorem dX7_shortenDistances_28 : decode cX7_shortenDistances 28 = .ok (.aload_n 0, 1) := by decide +kernel
theorem dX7_shortenDistances_29 : decode cX7_shortenDistances 29 = .ok (.getfield 35, 3) := by decide +kernel
theorem dX7_shortenDistances_32 : decode cX7_shortenDistances 32 = .ok (.iload_n 2, 1) := by decide +kernel
theorem dX7_shortenDistances_33 : decode cX7_shortenDistances 33 = .ok (.aaload, 1) := by decide +kernel
theorem dX7_shortenDistances_34 : decode cX7_shortenDistances 34 = .ok (.iload 4, 2) := by decide +kernel
theorem dX7_shortenDistances_36 : decode cX7_shortenDistances 36 = .ok (.iaload, 1) := by decide +kernel
theorem dX7_shortenDistances_37 : decode cX7_shortenDistances 37 = .ok (.iadd, 1) := by decide +kernel
theorem dX7_shortenDistances_38 : decode cX7_shortenDistances 38 = .ok (.istore 5, 2) := by decide +kernel
theorem dX7_shortenDistances_40 : decode cX7_shortenDistances 40 = .ok (.aload_n 0, 1) := by decide +kernel
theorem dX7_shortenDistances_41 : decode cX7_shortenDistances 41 = .ok (.getfield 35, 3) := by decide +kernel
theorem dX7_shortenDistances_44 : decode cX7_shortenDistances 44 = .ok (.iload_n 3, 1) := by decide +kernel
theorem dX7_shortenDistances_45 : decode cX7_shortenDistances 45 = .ok (.aaload, 1) := by decide +kernel
theorem dX7_shortenDistances_46 : decode cX7_shortenDistances 46 = .ok (.iload_n 2, 1) := by decide +kernel
theorem dX7_shortenDistances_47 : decode cX7_shortenDistances 47 = .ok (.iaload, 1) := by decide +kernel
theorem dX7_shortenDistances_48 : decode cX7_shortenDistances 48 = .ok (.iconst 1, 1) := by decide +kernel
theorem dX7_shortenDistances_49 : decode cX7_shortenDistances 49 = .ok (.iadd, 1) := by decide +kernel
theorem dX7_shortenDistances_50 : decode cX7_shortenDistances 50 = .ok (.aload_n 0, 1) := by decide +kernel
theorem dX7_shortenDistances_51 : decode cX7_shortenDistances 51 = .ok (.getfield 35, 3) := by decide +kernel
theorem dX7_shortenDistances_54 : decode cX7_shortenDistances 54 = .ok (.iload_n 1, 1) := by decide +kernel
theorem dX7_shortenDistances_55 : decode cX7_shortenDistances 55 = .ok (.aaload, 1) := by decide +kernel
theorem dX7_shortenDistances_56 : decode cX7_shortenDistances 56 = .ok (.iload 4, 2) := by decide +kernel
theorem dX7_shortenDistances_58 : decode cX7_shortenDistances 58 = .ok (.iaload, 1) := by decide +kernel
theorem dX7_shortenDistances_59 : decode cX7_shortenDistances 59 = .ok (.iadd, 1) := by decide +kernel
theorem dX7_shortenDistances_60 : decode cX7_shortenDistances 60 = .ok (.istore 6, 2) := by decide +kernel
theorem dX7_shortenDistances_62 : decode cX7_shortenDistances 62 = .ok (.aload_n 0, 1) := by decide +kernel
theorem dX7_shortenDistances_63 : decode cX7_shortenDistances 63 = .ok (.getfield 35, 3) := by decide +kernel
theorem dX7_shortenDistances_66 : decode cX7_shortenDistances 66 = .ok (.iload_n 3, 1) := by decide +kernel
theorem dX7_shortenDistances_67 : decode cX7_shortenDistances 67 = .ok (.aaload, 1) := by decide +kernel
theorem dX7_shortenDistances_68 : decode cX7_shortenDistances 68 = .ok (.iload 4, 2) := by decide +kernel
theorem dX7_shortenDistances_70 : decode cX7_shortenDistances 70 = .ok (.aload_n 0, 1) := by decide +kernel
theorem dX7_shortenDistances_71 : decode cX7_shortenDistances 71 = .ok (.getfield 35, 3) := by decide +kernel
theorem dX7_shortenDistances_74 : decode cX7_shortenDistances 74 = .ok (.iload_n 3, 1) := by decide +kernel
theorem dX7_shortenDistances_75 : decode cX7_shortenDistances 75 = .ok (.aaload, 1) := by decide +kernel
theorem dX7_shortenDistances_76 : decode cX7_shortenDistances 76 = .ok (.iload 4, 2) := by decide +kernel
theorem dX7_shortenDistances_78 : decode cX7_shortenDistances 78 = .ok (.iaload, 1) := by decide +kernel
theorem dX7_shortenDistances_79 : decode cX7_shortenDistances 79 = .ok (.iload 5, 2) := by decide +kernel
theorem dX7_shortenDistances_81 : decode cX7_shortenDistances 81 = .ok (.iload 6, 2) := by decide +kernel
theorem dX7_shortenDistances_83 : decode cX7_shortenDistances 83 = .ok (.invokestatic 78, 3) := by decide +kernel
theorem dX7_shortenDistances_86 : decode cX7_shortenDistances 86 = .ok (.invokestatic 78, 3) := by decide +kernel
theorem dX7_shortenDistances_89 : decode cX7_shortenDistances 89 = .ok (.iastore, 1) := by decide +kernel
theorem dX7_shortenDistances_90 : decode cX7_shortenDistances 90 = .ok (.iinc 4 1, 3) := by decide +kernel
theorem dX7_shortenDistances_93 : decode cX7_shortenDistances 93 = .ok (.goto (-82), 3) := by decide +kernel
theorem dX7_shortenDistances_96 : decode cX7_shortenDistances 96 = .ok (.iinc 3 1, 3) := by decide +kernel
theorem dX7_shortenDistances_99 : decode cX7_shortenDistances 99 = .ok (.goto (-97), 3) := by decide +kernel
theorem dX7_shortenDistances_102 : decode cX7_shortenDistances 102 = .ok (.return_, 1) := by decide +kernel
set_option maxRecDepth 20000 in
set_option maxRecDepth 100000 in
theorem ggX7_store_X7_postAt : GoodIn wsX7_store wsX7_postAt := goodIn_r _ [8, 9, 20, 21, 22, 23, 24, 25, 26, 27, 28, 29, 30, 31, 32, 33] rfl (by decide +kernel)
set_option maxRecDepth 20000 in
theorem gX7_store_X7_postAt : GoodIn wsX7_store (wsV RX7 84 RX7 yX7_postAt wsX7_postAt) := goodIn_app (goodIn_of _ (by decide +kernel)) ggX7_store_X7_postAt
set_option maxRecDepth 20000 in
set_option maxRecDepth 100000 in
theorem ggX7_store_X7_isWare : GoodIn wsX7_store wsX7_isWare := goodIn_r _ [12] rfl (by decide +kernel)
set_option maxRecDepth 20000 in
theorem gX7_store_X7_isWare : GoodIn wsX7_store (va_wsS RX7 88 yX7_isWare wsX7_isWare) := goodIn_app (goodIn_of _ (by decide +kernel)) ggX7_store_X7_isWare
set_option maxRecDepth 20000 in
set_option maxRecDepth 100000 in
theorem ggX7_store_X7_isWithin : GoodIn wsX7_store wsX7_isWithin := goodIn_r _ [15] rfl (by decide +kernel)
set_option maxRecDepth 20000 in
theorem gX7_store_X7_isWithin : GoodIn wsX7_store (va_wsS RX7 66 yX7_isWithin wsX7_isWithin) := goodIn_app (goodIn_of _ (by decide +kernel)) ggX7_store_X7_isWithin
theorem dX7_store_0 : decode cX7_store 0 = .ok (.aload_n 0, 1) := by decide +kernel
theorem dX7_store_1 : decode cX7_store 1 = .ok (.iload_n 1, 1) := by decide +kernel
theorem dX7_store_2 : decode cX7_store 2 = .ok (.invokevirtual 84, 3) := by decide +kernel
theorem dX7_store_5 : decode cX7_store 5 = .ok (.astore 4, 2) := by decide +kernel
theorem dX7_store_7 : decode cX7_store 7 = .ok (.aload 4, 2) := by decide +kernel
theorem dX7_store_9 : decode cX7_store 9 = .ok (.ifnull 35, 3) := by decide +kernel
theorem dX7_store_12 : decode cX7_store 12 = .ok (.iload_n 2, 1) := by decide +kernel
theorem dX7_store_13 : decode cX7_store 13 = .ok (.invokestatic 88, 3) := by decide +kernel
theorem dX7_store_16 : decode cX7_store 16 = .ok (.ifCond .eq 28, 3) := by decide +kernel
theorem dX7_store_19 : decode cX7_store 19 = .ok (.iload_n 3, 1) := by decide +kernel
theorem dX7_store_20 : decode cX7_store 20 = .ok (.iconst 1, 1) := by decide +kernel
theorem dX7_store_21 : decode cX7_store 21 = .ok (.sipush 10000, 3) := by decide +kernel
theorem dX7_store_24 : decode cX7_store 24 = .ok (.invokestatic 66, 3) := by decide +kernel
theorem dX7_store_27 : decode cX7_store 27 = .ok (.ifCond .eq 17, 3) := by decide +kernel
theorem dX7_store_30 : decode cX7_store 30 = .ok (.aload 4, 2) := by decide +kernel
theorem dX7_store_32 : decode cX7_store 32 = .ok (.getfield 92, 3) := by decide +kernel
theorem dX7_store_35 : decode cX7_store 35 = .ok (.iload_n 2, 1) := by decide +kernel
theorem dX7_store_36 : decode cX7_store 36 = .ok (.iaload, 1) := by decide +kernel
theorem dX7_store_37 : decode cX7_store 37 = .ok (.iload_n 3, 1) := by decide +kernel
theorem dX7_store_38 : decode cX7_store 38 = .ok (.iadd, 1) := by decide +kernel
theorem dX7_store_39 : decode cX7_store 39 = .ok (.ldc 95, 2) := by decide +kernel
theorem dX7_store_41 : decode cX7_store 41 = .ok (.if_icmp .le 5, 3) := by decide +kernel
theorem dX7_store_44 : decode cX7_store 44 = .ok (.iconst (-1), 1) := by decide +kernel
theorem dX7_store_45 : decode cX7_store 45 = .ok (.ireturn, 1) := by decide +kernel
theorem dX7_store_46 : decode cX7_store 46 = .ok (.aload 4, 2) := by decide +kernel
theorem dX7_store_48 : decode cX7_store 48 = .ok (.getfield 92, 3) := by decide +kernel
theorem dX7_store_51 : decode cX7_store 51 = .ok (.iload_n 2, 1) := by decide +kernel
theorem dX7_store_52 : decode cX7_store 52 = .ok (.dup2, 1) := by decide +kernel
theorem dX7_store_53 : decode cX7_store 53 = .ok (.iaload, 1) := by decide +kernel
theorem dX7_store_54 : decode cX7_store 54 = .ok (.iload_n 3, 1) := by decide +kernel
theorem dX7_store_55 : decode cX7_store 55 = .ok (.iadd, 1) := by decide +kernel
theorem dX7_store_56 : decode cX7_store 56 = .ok (.iastore, 1) := by decide +kernel
theorem dX7_store_57 : decode cX7_store 57 = .ok (.aload_n 0, 1) := by decide +kernel
theorem dX7_store_58 : decode cX7_store 58 = .ok (.getfield 41, 3) := by decide +kernel
theorem dX7_store_61 : decode cX7_store 61 = .ok (.iload_n 2, 1) := by decide +kernel
theorem dX7_store_62 : decode cX7_store 62 = .ok (.aaload, 1) := by decide +kernel
theorem dX7_store_63 : decode cX7_store 63 = .ok (.iconst 0, 1) := by decide +kernel
theorem dX7_store_64 : decode cX7_store 64 = .ok (.dup2, 1) := by decide +kernel
theorem dX7_store_65 : decode cX7_store 65 = .ok (.iaload, 1) := by decide +kernel
theorem dX7_store_66 : decode cX7_store 66 = .ok (.iload_n 3, 1) := by decide +kernel
theorem dX7_store_67 : decode cX7_store 67 = .ok (.iadd, 1) := by decide +kernel
theorem dX7_store_68 : decode cX7_store 68 = .ok (.iastore, 1) := by decide +kernel
theorem dX7_store_69 : decode cX7_store 69 = .ok (.aload 4, 2) := by decide +kernel
theorem dX7_store_71 : decode cX7_store 71 = .ok (.getfield 92, 3) := by decide +kernel
theorem dX7_store_74 : decode cX7_store 74 = .ok (.iload_n 2, 1) := by decide +kernel
theorem dX7_store_75 : decode cX7_store 75 = .ok (.iaload, 1) := by decide +kernel
theorem dX7_store_76 : decode cX7_store 76 = .ok (.ireturn, 1) := by decide +kernel
set_option maxRecDepth 20000 in
set_option maxRecDepth 100000 in
theorem ggX7_load_X7_isWare : GoodIn wsX7_load wsX7_isWare := goodIn_r _ [5] rfl (by decide +kernel)
set_option maxRecDepth 20000 in
theorem gX7_load_X7_isWare : GoodIn wsX7_load (va_wsS RX7 88 yX7_isWare wsX7_isWare) := goodIn_app (goodIn_of _ (by decide +kernel)) ggX7_load_X7_isWare
set_option maxRecDepth 20000 in
set_option maxRecDepth 100000 in
theorem ggX7_load_X7_isWithin : GoodIn wsX7_load wsX7_isWithin := goodIn_r _ [8] rfl (by decide +kernel)
set_option maxRecDepth 20000 in
theorem gX7_load_X7_isWithin : GoodIn wsX7_load (va_wsS RX7 66 yX7_isWithin wsX7_isWithin) := goodIn_app (goodIn_of _ (by decide +kernel)) ggX7_load_X7_isWithin
theorem dX7_load_0 : decode cX7_load 0 = .ok (.iload_n 1, 1) := by decide +kernel
theorem dX7_load_1 : decode cX7_load 1 = .ok (.invokestatic 88, 3) := by decide +kernel
theorem dX7_load_4 : decode cX7_load 4 = .ok (.ifCond .eq 14, 3) := by decide +kernel
theorem dX7_load_7 : decode cX7_load 7 = .ok (.iload_n 2, 1) := by decide +kernel
theorem dX7_load_8 : decode cX7_load 8 = .ok (.iconst 0, 1) := by decide +kernel
theorem dX7_load_9 : decode cX7_load 9 = .ok (.sipush 500, 3) := by decide +kernel
theorem dX7_load_12 : decode cX7_load 12 = .ok (.invokestatic 66, 3) := by decide +kernel
theorem dX7_load_15 : decode cX7_load 15 = .ok (.ifCond .ne 5, 3) := by decide +kernel
theorem dX7_load_18 : decode cX7_load 18 = .ok (.iconst 0, 1) := by decide +kernel
theorem dX7_load_19 : decode cX7_load 19 = .ok (.ireturn, 1) := by decide +kernel
theorem dX7_load_20 : decode cX7_load 20 = .ok (.aload_n 0, 1) := by decide +kernel
theorem dX7_load_21 : decode cX7_load 21 = .ok (.getfield 44, 3) := by decide +kernel
theorem dX7_load_24 : decode cX7_load 24 = .ok (.iload_n 1, 1) := by decide +kernel
theorem dX7_load_25 : decode cX7_load 25 = .ok (.iload_n 2, 1) := by decide +kernel
theorem dX7_load_26 : decode cX7_load 26 = .ok (.iastore, 1) := by decide +kernel
theorem dX7_load_27 : decode cX7_load 27 = .ok (.iconst 1, 1) := by decide +kernel
theorem dX7_load_28 : decode cX7_load 28 = .ok (.ireturn, 1) := by decide +kernel
set_option maxRecDepth 20000 in
set_option maxRecDepth 100000 in
theorem ggX7_send_X7_postAt : GoodIn wsX7_send wsX7_postAt := goodIn_r _ [21, 22, 93, 94, 95, 96, 97, 98, 99, 100, 101, 102, 103, 104, 105, 106] rfl (by decide +kernel)
set_option maxRecDepth 20000 in
theorem gX7_send_X7_postAt : GoodIn wsX7_send (wsV RX7 84 RX7 yX7_postAt wsX7_postAt) := goodIn_app (goodIn_of _ (by decide +kernel)) ggX7_send_X7_postAt
set_option maxRecDepth 20000 in
set_option maxRecDepth 100000 in
theorem ggX7_send_X7_wayAt : GoodIn wsX7_send wsX7_wayAt := goodIn_r _ [26, 27, 93, 94, 95, 96, 97, 98, 99, 100, 101, 102, 103, 104, 105, 106] rfl (by decide +kernel)
set_option maxRecDepth 20000 in
theorem gX7_send_X7_wayAt : GoodIn wsX7_send (wsV RX7 96 RX7 yX7_wayAt wsX7_wayAt) := goodIn_app (goodIn_of _ (by decide +kernel)) ggX7_send_X7_wayAt
set_option maxRecDepth 20000 in
set_option maxRecDepth 100000 in
theorem ggX7_send_X6_startsAt : GoodIn wsX7_send wsX6_startsAt := goodIn_r _ [32, 33, 34, 118, 119, 120, 121, 122, 123] rfl (by decide +kernel)
set_option maxRecDepth 20000 in
theorem gX7_send_X6_startsAt : GoodIn wsX7_send (wsV RX7 100 RX6 yX6_startsAt wsX6_startsAt) := goodIn_app (goodIn_of _ (by decide +kernel)) ggX7_send_X6_startsAt
set_option maxRecDepth 20000 in
set_option maxRecDepth 100000 in
theorem ggX7_send_X6_isOpenOn : GoodIn wsX7_send wsX6_isOpenOn := goodIn_r _ [38, 39, 40, 41, 20, 42, 118, 119, 120, 121, 122, 123] rfl (by decide +kernel)
set_option maxRecDepth 20000 in
theorem gX7_send_X6_isOpenOn : GoodIn wsX7_send (wsV RX7 106 RX6 yX6_isOpenOn wsX6_isOpenOn) := goodIn_app (goodIn_of _ (by decide +kernel)) ggX7_send_X6_isOpenOn
set_option maxRecDepth 20000 in
set_option maxRecDepth 100000 in
theorem ggX7_send_X7_canLoad : GoodIn wsX7_send wsX7_canLoad := goodIn_r _ [46, 7, 15, 47, 93, 94, 95, 96, 97, 98, 99, 100, 101, 102, 103, 104, 105, 106, 124, 125, 126, 127, 118, 119, 120, 121, 122, 123] rfl (by decide +kernel)
set_option maxRecDepth 20000 in
theorem gX7_send_X7_canLoad : GoodIn wsX7_send (wsV RX7 109 RX7 yX7_canLoad wsX7_canLoad) := goodIn_app (goodIn_of _ (by decide +kernel)) ggX7_send_X7_canLoad
set_option maxRecDepth 20000 in
set_option maxRecDepth 100000 in
theorem ggX7_send_X6_otherEnd : GoodIn wsX7_send wsX6_otherEnd := goodIn_r _ [51, 33, 34, 118, 119, 120, 121, 122, 123] rfl (by decide +kernel)
set_option maxRecDepth 20000 in
theorem gX7_send_X6_otherEnd : GoodIn wsX7_send (wsV RX7 116 RX6 yX6_otherEnd wsX6_otherEnd) := goodIn_app (goodIn_of _ (by decide +kernel)) ggX7_send_X6_otherEnd
set_option maxRecDepth 20000 in
set_option maxRecDepth 100000 in
theorem ggX7_send_X0_init : GoodIn wsX7_send wsX0_init := goodIn_r _ [54, 55, 56, 57, 58, 59, 60, 61, 62, 63, 64, 65, 66, 9, 10, 11, 12, 67, 68, 107, 108, 109, 110, 111, 112, 113, 114, 115, 116, 117] rfl (by decide +kernel)
set_option maxRecDepth 20000 in
theorem gX7_send_X0_init : GoodIn wsX7_send (wsX0_init) := ggX7_send_X0_init
set_option maxRecDepth 20000 in
set_option maxRecDepth 100000 in
theorem ggX7_send_X7_takeLetters : GoodIn wsX7_send wsX7_takeLetters := goodIn_r _ [72, 73, 74, 75, 76, 77, 78, 79, 80, 81, 20, 82, 83, 84, 85, 86, 87, 88, 89, 90, 91, 92, 17, 18, 19, 21, 22, 93, 94, 95, 96, 97, 98, 99, 100, 101, 102, 103, 104, 105, 106, 128, 129, 130, 131, 132, 133, 134, 135, 136, 137, 138, 139, 140, 141, 142, 143, 144, 145, 107, 108, 109, 110, 111, 112, 113, 114, 115, 116, 117] rfl (by decide +kernel)
set_option maxRecDepth 20000 in
theorem gX7_send_X7_takeLetters : GoodIn wsX7_send (wsV RX7 131 RX7 yX7_takeLetters wsX7_takeLetters) := goodIn_app (goodIn_of _ (by decide +kernel)) ggX7_send_X7_takeLetters
theorem dX7_send_0 : decode cX7_send 0 = .ok (.aload_n 0, 1) := by decide +kernel
theorem dX7_send_1 : decode cX7_send 1 = .ok (.iload_n 1, 1) := by decide +kernel
theorem dX7_send_2 : decode cX7_send 2 = .ok (.invokevirtual 84, 3) := by decide +kernel
theorem dX7_send_5 : decode cX7_send 5 = .ok (.astore_n 3, 1) := by decide +kernel
theorem dX7_send_6 : decode cX7_send 6 = .ok (.aload_n 0, 1) := by decide +kernel
theorem dX7_send_7 : decode cX7_send 7 = .ok (.iload_n 2, 1) := by decide +kernel
theorem dX7_send_8 : decode cX7_send 8 = .ok (.invokevirtual 96, 3) := by decide +kernel
theorem dX7_send_11 : decode cX7_send 11 = .ok (.astore 4, 2) := by decide +kernel
theorem dX7_send_13 : decode cX7_send 13 = .ok (.aload_n 3, 1) := by decide +kernel
theorem dX7_send_14 : decode cX7_send 14 = .ok (.ifnull 29, 3) := by decide +kernel
theorem dX7_send_17 : decode cX7_send 17 = .ok (.aload 4, 2) := by decide +kernel
theorem dX7_send_19 : decode cX7_send 19 = .ok (.ifnull 24, 3) := by decide +kernel
theorem dX7_send_22 : decode cX7_send 22 = .ok (.aload 4, 2) := by decide +kernel
theorem dX7_send_24 : decode cX7_send 24 = .ok (.iload_n 1, 1) := by decide +kernel
theorem dX7_send_25 : decode cX7_send 25 = .ok (.invokevirtual 100, 3) := by decide +kernel
theorem dX7_send_28 : decode cX7_send 28 = .ok (.ifCond .eq 15, 3) := by decide +kernel
theorem dX7_send_31 : decode cX7_send 31 = .ok (.aload 4, 2) := by decide +kernel
theorem dX7_send_33 : decode cX7_send 33 = .ok (.aload_n 0, 1) := by decide +kernel
theorem dX7_send_34 : decode cX7_send 34 = .ok (.getfield 103, 3) := by decide +kernel
theorem dX7_send_37 : decode cX7_send 37 = .ok (.invokevirtual 106, 3) := by decide +kernel
theorem dX7_send_40 : decode cX7_send 40 = .ok (.ifCond .ne 5, 3) := by decide +kernel
theorem dX7_send_43 : decode cX7_send 43 = .ok (.iconst (-1), 1) := by decide +kernel
theorem dX7_send_44 : decode cX7_send 44 = .ok (.ireturn, 1) := by decide +kernel
theorem dX7_send_45 : decode cX7_send 45 = .ok (.aload_n 0, 1) := by decide +kernel
theorem dX7_send_46 : decode cX7_send 46 = .ok (.aload_n 3, 1) := by decide +kernel
theorem dX7_send_47 : decode cX7_send 47 = .ok (.aload 4, 2) := by decide +kernel
theorem dX7_send_49 : decode cX7_send 49 = .ok (.invokevirtual 109, 3) := by decide +kernel
theorem dX7_send_52 : decode cX7_send 52 = .ok (.ifCond .eq 22, 3) := by decide +kernel
theorem dX7_send_55 : decode cX7_send 55 = .ok (.aload_n 0, 1) := by decide +kernel
theorem dX7_send_56 : decode cX7_send 56 = .ok (.getfield 113, 3) := by decide +kernel
theorem dX7_send_59 : decode cX7_send 59 = .ok (.bipush 120, 2) := by decide +kernel
theorem dX7_send_61 : decode cX7_send 61 = .ok (.if_icmp .ge 13, 3) := by decide +kernel
theorem dX7_send_64 : decode cX7_send 64 = .ok (.aload_n 0, 1) := by decide +kernel
theorem dX7_send_65 : decode cX7_send 65 = .ok (.getfield 103, 3) := by decide +kernel
theorem dX7_send_68 : decode cX7_send 68 = .ok (.sipush 3000, 3) := by decide +kernel
theorem dX7_send_71 : decode cX7_send 71 = .ok (.if_icmp .lt 5, 3) := by decide +kernel
theorem dX7_send_74 : decode cX7_send 74 = .ok (.iconst (-1), 1) := by decide +kernel
theorem dX7_send_75 : decode cX7_send 75 = .ok (.ireturn, 1) := by decide +kernel
theorem dX7_send_76 : decode cX7_send 76 = .ok (.aload_n 0, 1) := by decide +kernel
theorem dX7_send_77 : decode cX7_send 77 = .ok (.getfield 113, 3) := by decide +kernel
theorem dX7_send_80 : decode cX7_send 80 = .ok (.istore 5, 2) := by decide +kernel
theorem dX7_send_82 : decode cX7_send 82 = .ok (.new 21, 3) := by decide +kernel
theorem dX7_send_85 : decode cX7_send 85 = .ok (.dup, 1) := by decide +kernel
theorem dX7_send_86 : decode cX7_send 86 = .ok (.iload_n 1, 1) := by decide +kernel
theorem dX7_send_87 : decode cX7_send 87 = .ok (.aload 4, 2) := by decide +kernel
theorem dX7_send_89 : decode cX7_send 89 = .ok (.iload_n 1, 1) := by decide +kernel
theorem dX7_send_90 : decode cX7_send 90 = .ok (.invokevirtual 116, 3) := by decide +kernel
theorem dX7_send_93 : decode cX7_send 93 = .ok (.iload_n 2, 1) := by decide +kernel
theorem dX7_send_94 : decode cX7_send 94 = .ok (.aload 4, 2) := by decide +kernel
theorem dX7_send_96 : decode cX7_send 96 = .ok (.getfield 120, 3) := by decide +kernel
theorem dX7_send_99 : decode cX7_send 99 = .ok (.aload_n 0, 1) := by decide +kernel
theorem dX7_send_100 : decode cX7_send 100 = .ok (.getfield 103, 3) := by decide +kernel
theorem dX7_send_103 : decode cX7_send 103 = .ok (.aload_n 0, 1) := by decide +kernel
theorem dX7_send_104 : decode cX7_send 104 = .ok (.getfield 44, 3) := by decide +kernel
theorem dX7_send_107 : decode cX7_send 107 = .ok (.invokevirtual 123, 3) := by decide +kernel
theorem dX7_send_110 : decode cX7_send 110 = .ok (.checkcast 124, 3) := by decide +kernel
theorem dX7_send_113 : decode cX7_send 113 = .ok (.invokespecial 128, 3) := by decide +kernel
theorem dX7_send_116 : decode cX7_send 116 = .ok (.astore 6, 2) := by decide +kernel
theorem dX7_send_118 : decode cX7_send 118 = .ok (.aload_n 0, 1) := by decide +kernel
theorem dX7_send_119 : decode cX7_send 119 = .ok (.getfield 23, 3) := by decide +kernel
theorem dX7_send_122 : decode cX7_send 122 = .ok (.iload 5, 2) := by decide +kernel
theorem dX7_send_124 : decode cX7_send 124 = .ok (.aload 6, 2) := by decide +kernel
theorem dX7_send_126 : decode cX7_send 126 = .ok (.aastore, 1) := by decide +kernel
theorem dX7_send_127 : decode cX7_send 127 = .ok (.aload_n 0, 1) := by decide +kernel
theorem dX7_send_128 : decode cX7_send 128 = .ok (.dup, 1) := by decide +kernel
theorem dX7_send_129 : decode cX7_send 129 = .ok (.getfield 113, 3) := by decide +kernel
theorem dX7_send_132 : decode cX7_send 132 = .ok (.iconst 1, 1) := by decide +kernel
theorem dX7_send_133 : decode cX7_send 133 = .ok (.iadd, 1) := by decide +kernel
theorem dX7_send_134 : decode cX7_send 134 = .ok (.putfield 113, 3) := by decide +kernel
theorem dX7_send_137 : decode cX7_send 137 = .ok (.iconst 0, 1) := by decide +kernel
theorem dX7_send_138 : decode cX7_send 138 = .ok (.istore 7, 2) := by decide +kernel
theorem dX7_send_140 : decode cX7_send 140 = .ok (.iload 7, 2) := by decide +kernel
theorem dX7_send_142 : decode cX7_send 142 = .ok (.bipush 6, 2) := by decide +kernel
theorem dX7_send_144 : decode cX7_send 144 = .ok (.if_icmp .ge 34, 3) := by decide +kernel
theorem dX7_send_147 : decode cX7_send 147 = .ok (.aload_n 3, 1) := by decide +kernel
theorem dX7_send_148 : decode cX7_send 148 = .ok (.getfield 92, 3) := by decide +kernel
theorem dX7_send_151 : decode cX7_send 151 = .ok (.iload 7, 2) := by decide +kernel
theorem dX7_send_153 : decode cX7_send 153 = .ok (.dup2, 1) := by decide +kernel
theorem dX7_send_154 : decode cX7_send 154 = .ok (.iaload, 1) := by decide +kernel
theorem dX7_send_155 : decode cX7_send 155 = .ok (.aload_n 0, 1) := by decide +kernel
theorem dX7_send_156 : decode cX7_send 156 = .ok (.getfield 44, 3) := by decide +kernel
theorem dX7_send_159 : decode cX7_send 159 = .ok (.iload 7, 2) := by decide +kernel
theorem dX7_send_161 : decode cX7_send 161 = .ok (.iaload, 1) := by decide +kernel
theorem dX7_send_162 : decode cX7_send 162 = .ok (.isub, 1) := by decide +kernel
theorem dX7_send_163 : decode cX7_send 163 = .ok (.iastore, 1) := by decide +kernel
theorem dX7_send_164 : decode cX7_send 164 = .ok (.aload_n 0, 1) := by decide +kernel
theorem dX7_send_165 : decode cX7_send 165 = .ok (.getfield 44, 3) := by decide +kernel
theorem dX7_send_168 : decode cX7_send 168 = .ok (.iload 7, 2) := by decide +kernel
theorem dX7_send_170 : decode cX7_send 170 = .ok (.iconst 0, 1) := by decide +kernel
theorem dX7_send_171 : decode cX7_send 171 = .ok (.iastore, 1) := by decide +kernel
theorem dX7_send_172 : decode cX7_send 172 = .ok (.iinc 7 1, 3) := by decide +kernel
theorem dX7_send_175 : decode cX7_send 175 = .ok (.goto (-35), 3) := by decide +kernel
theorem dX7_send_178 : decode cX7_send 178 = .ok (.aload 6, 2) := by decide +kernel
theorem dX7_send_180 : decode cX7_send 180 = .ok (.aload_n 0, 1) := by decide +kernel
theorem dX7_send_181 : decode cX7_send 181 = .ok (.iload 5, 2) := by decide +kernel
theorem dX7_send_183 : decode cX7_send 183 = .ok (.aload 6, 2) := by decide +kernel
theorem dX7_send_185 : decode cX7_send 185 = .ok (.invokevirtual 131, 3) := by decide +kernel
theorem dX7_send_188 : decode cX7_send 188 = .ok (.putfield 135, 3) := by decide +kernel
theorem dX7_send_191 : decode cX7_send 191 = .ok (.iload 5, 2) := by decide +kernel
theorem dX7_send_193 : decode cX7_send 193 = .ok (.ireturn, 1) := by decide +kernel
set_option maxRecDepth 20000 in
set_option maxRecDepth 100000 in
theorem ggX7_lose_X7_canoeAt : GoodIn wsX7_lose wsX7_canoeAt := goodIn_r _ [9, 10, 35, 36, 37, 38, 39, 40, 41, 42, 43, 44, 45, 46, 47, 48] rfl (by decide +kernel)
set_option maxRecDepth 20000 in
theorem gX7_lose_X7_canoeAt : GoodIn wsX7_lose (wsV RX7 138 RX7 yX7_canoeAt wsX7_canoeAt) := goodIn_app (goodIn_of _ (by decide +kernel)) ggX7_lose_X7_canoeAt
set_option maxRecDepth 20000 in
set_option maxRecDepth 100000 in
theorem ggX7_lose_X7_loseLetters : GoodIn wsX7_lose wsX7_loseLetters := goodIn_r _ [14, 15, 16, 17, 18, 19, 20, 21, 8, 22, 23, 35, 36, 37, 38, 39, 40, 41, 42, 43, 44, 45, 46, 47, 48, 49, 50, 51, 52, 53, 54, 55, 56, 57, 58, 59, 60, 61, 62, 63, 64, 65, 66] rfl (by decide +kernel)
set_option maxRecDepth 20000 in
theorem gX7_lose_X7_loseLetters : GoodIn wsX7_lose (wsV RX7 151 RX7 yX7_loseLetters wsX7_loseLetters) := goodIn_app (goodIn_of _ (by decide +kernel)) ggX7_lose_X7_loseLetters
theorem dX7_lose_0 : decode cX7_lose 0 = .ok (.aload_n 0, 1) := by decide +kernel
theorem dX7_lose_1 : decode cX7_lose 1 = .ok (.iload_n 1, 1) := by decide +kernel
theorem dX7_lose_2 : decode cX7_lose 2 = .ok (.invokevirtual 138, 3) := by decide +kernel
theorem dX7_lose_5 : decode cX7_lose 5 = .ok (.astore_n 2, 1) := by decide +kernel
theorem dX7_lose_6 : decode cX7_lose 6 = .ok (.aload_n 2, 1) := by decide +kernel
theorem dX7_lose_7 : decode cX7_lose 7 = .ok (.ifnull 10, 3) := by decide +kernel
theorem dX7_lose_10 : decode cX7_lose 10 = .ok (.aload_n 2, 1) := by decide +kernel
theorem dX7_lose_11 : decode cX7_lose 11 = .ok (.getfield 142, 3) := by decide +kernel
theorem dX7_lose_14 : decode cX7_lose 14 = .ok (.ifCond .eq 5, 3) := by decide +kernel
theorem dX7_lose_17 : decode cX7_lose 17 = .ok (.iconst (-1), 1) := by decide +kernel
theorem dX7_lose_18 : decode cX7_lose 18 = .ok (.ireturn, 1) := by decide +kernel
theorem dX7_lose_19 : decode cX7_lose 19 = .ok (.aload_n 2, 1) := by decide +kernel
theorem dX7_lose_20 : decode cX7_lose 20 = .ok (.iconst 2, 1) := by decide +kernel
theorem dX7_lose_21 : decode cX7_lose 21 = .ok (.putfield 142, 3) := by decide +kernel
theorem dX7_lose_24 : decode cX7_lose 24 = .ok (.aload_n 2, 1) := by decide +kernel
theorem dX7_lose_25 : decode cX7_lose 25 = .ok (.iconst 0, 1) := by decide +kernel
theorem dX7_lose_26 : decode cX7_lose 26 = .ok (.putfield 145, 3) := by decide +kernel
theorem dX7_lose_29 : decode cX7_lose 29 = .ok (.iconst 0, 1) := by decide +kernel
theorem dX7_lose_30 : decode cX7_lose 30 = .ok (.istore_n 3, 1) := by decide +kernel
theorem dX7_lose_31 : decode cX7_lose 31 = .ok (.iconst 0, 1) := by decide +kernel
theorem dX7_lose_32 : decode cX7_lose 32 = .ok (.istore 4, 2) := by decide +kernel
theorem dX7_lose_34 : decode cX7_lose 34 = .ok (.iload 4, 2) := by decide +kernel
theorem dX7_lose_36 : decode cX7_lose 36 = .ok (.bipush 6, 2) := by decide +kernel
theorem dX7_lose_38 : decode cX7_lose 38 = .ok (.if_icmp .ge 46, 3) := by decide +kernel
theorem dX7_lose_41 : decode cX7_lose 41 = .ok (.iload_n 3, 1) := by decide +kernel
theorem dX7_lose_42 : decode cX7_lose 42 = .ok (.aload_n 2, 1) := by decide +kernel
theorem dX7_lose_43 : decode cX7_lose 43 = .ok (.getfield 148, 3) := by decide +kernel
theorem dX7_lose_46 : decode cX7_lose 46 = .ok (.iload 4, 2) := by decide +kernel
theorem dX7_lose_48 : decode cX7_lose 48 = .ok (.iaload, 1) := by decide +kernel
theorem dX7_lose_49 : decode cX7_lose 49 = .ok (.iadd, 1) := by decide +kernel
theorem dX7_lose_50 : decode cX7_lose 50 = .ok (.istore_n 3, 1) := by decide +kernel
theorem dX7_lose_51 : decode cX7_lose 51 = .ok (.aload_n 0, 1) := by decide +kernel
theorem dX7_lose_52 : decode cX7_lose 52 = .ok (.getfield 41, 3) := by decide +kernel
theorem dX7_lose_55 : decode cX7_lose 55 = .ok (.iload 4, 2) := by decide +kernel
theorem dX7_lose_57 : decode cX7_lose 57 = .ok (.aaload, 1) := by decide +kernel
theorem dX7_lose_58 : decode cX7_lose 58 = .ok (.iconst 4, 1) := by decide +kernel
theorem dX7_lose_59 : decode cX7_lose 59 = .ok (.dup2, 1) := by decide +kernel
theorem dX7_lose_60 : decode cX7_lose 60 = .ok (.iaload, 1) := by decide +kernel
theorem dX7_lose_61 : decode cX7_lose 61 = .ok (.aload_n 2, 1) := by decide +kernel
theorem dX7_lose_62 : decode cX7_lose 62 = .ok (.getfield 148, 3) := by decide +kernel
theorem dX7_lose_65 : decode cX7_lose 65 = .ok (.iload 4, 2) := by decide +kernel
theorem dX7_lose_67 : decode cX7_lose 67 = .ok (.iaload, 1) := by decide +kernel
theorem dX7_lose_68 : decode cX7_lose 68 = .ok (.iadd, 1) := by decide +kernel
theorem dX7_lose_69 : decode cX7_lose 69 = .ok (.iastore, 1) := by decide +kernel
theorem dX7_lose_70 : decode cX7_lose 70 = .ok (.aload_n 2, 1) := by decide +kernel
theorem dX7_lose_71 : decode cX7_lose 71 = .ok (.getfield 148, 3) := by decide +kernel
theorem dX7_lose_74 : decode cX7_lose 74 = .ok (.iload 4, 2) := by decide +kernel
theorem dX7_lose_76 : decode cX7_lose 76 = .ok (.iconst 0, 1) := by decide +kernel
theorem dX7_lose_77 : decode cX7_lose 77 = .ok (.iastore, 1) := by decide +kernel
theorem dX7_lose_78 : decode cX7_lose 78 = .ok (.iinc 4 1, 3) := by decide +kernel
theorem dX7_lose_81 : decode cX7_lose 81 = .ok (.goto (-47), 3) := by decide +kernel
theorem dX7_lose_84 : decode cX7_lose 84 = .ok (.aload_n 0, 1) := by decide +kernel
theorem dX7_lose_85 : decode cX7_lose 85 = .ok (.iload_n 1, 1) := by decide +kernel
theorem dX7_lose_86 : decode cX7_lose 86 = .ok (.invokevirtual 151, 3) := by decide +kernel
theorem dX7_lose_89 : decode cX7_lose 89 = .ok (.iload_n 3, 1) := by decide +kernel
theorem dX7_lose_90 : decode cX7_lose 90 = .ok (.ireturn, 1) := by decide +kernel
set_option maxRecDepth 20000 in
set_option maxRecDepth 100000 in
theorem ggX7_spoil_X7_canoeAt : GoodIn wsX7_spoil wsX7_canoeAt := goodIn_r _ [9, 10, 28, 29, 30, 31, 32, 33, 34, 35, 36, 37, 38, 39, 40, 41] rfl (by decide +kernel)
set_option maxRecDepth 20000 in
theorem gX7_spoil_X7_canoeAt : GoodIn wsX7_spoil (wsV RX7 138 RX7 yX7_canoeAt wsX7_canoeAt) := goodIn_app (goodIn_of _ (by decide +kernel)) ggX7_spoil_X7_canoeAt
set_option maxRecDepth 20000 in
set_option maxRecDepth 100000 in
theorem ggX7_spoil_X7_isWare : GoodIn wsX7_spoil wsX7_isWare := goodIn_r _ [13] rfl (by decide +kernel)
set_option maxRecDepth 20000 in
theorem gX7_spoil_X7_isWare : GoodIn wsX7_spoil (va_wsS RX7 88 yX7_isWare wsX7_isWare) := goodIn_app (goodIn_of _ (by decide +kernel)) ggX7_spoil_X7_isWare
set_option maxRecDepth 20000 in
set_option maxRecDepth 100000 in
theorem ggX7_spoil_X7_isWithin : GoodIn wsX7_spoil wsX7_isWithin := goodIn_r _ [16] rfl (by decide +kernel)
set_option maxRecDepth 20000 in
theorem gX7_spoil_X7_isWithin : GoodIn wsX7_spoil (va_wsS RX7 66 yX7_isWithin wsX7_isWithin) := goodIn_app (goodIn_of _ (by decide +kernel)) ggX7_spoil_X7_isWithin
theorem dX7_spoil_0 : decode cX7_spoil 0 = .ok (.aload_n 0, 1) := by decide +kernel
theorem dX7_spoil_1 : decode cX7_spoil 1 = .ok (.iload_n 1, 1) := by decide +kernel
theorem dX7_spoil_2 : decode cX7_spoil 2 = .ok (.invokevirtual 138, 3) := by decide +kernel
theorem dX7_spoil_5 : decode cX7_spoil 5 = .ok (.astore 4, 2) := by decide +kernel
theorem dX7_spoil_7 : decode cX7_spoil 7 = .ok (.aload 4, 2) := by decide +kernel
theorem dX7_spoil_9 : decode cX7_spoil 9 = .ok (.ifnull 33, 3) := by decide +kernel
theorem dX7_spoil_12 : decode cX7_spoil 12 = .ok (.aload 4, 2) := by decide +kernel
theorem dX7_spoil_14 : decode cX7_spoil 14 = .ok (.getfield 142, 3) := by decide +kernel
theorem dX7_spoil_17 : decode cX7_spoil 17 = .ok (.ifCond .ne 25, 3) := by decide +kernel
theorem dX7_spoil_20 : decode cX7_spoil 20 = .ok (.iload_n 2, 1) := by decide +kernel
theorem dX7_spoil_21 : decode cX7_spoil 21 = .ok (.invokestatic 88, 3) := by decide +kernel
theorem dX7_spoil_24 : decode cX7_spoil 24 = .ok (.ifCond .eq 18, 3) := by decide +kernel
theorem dX7_spoil_27 : decode cX7_spoil 27 = .ok (.iload_n 3, 1) := by decide +kernel
theorem dX7_spoil_28 : decode cX7_spoil 28 = .ok (.iconst 1, 1) := by decide +kernel
theorem dX7_spoil_29 : decode cX7_spoil 29 = .ok (.aload 4, 2) := by decide +kernel
theorem dX7_spoil_31 : decode cX7_spoil 31 = .ok (.getfield 148, 3) := by decide +kernel
theorem dX7_spoil_34 : decode cX7_spoil 34 = .ok (.iload_n 2, 1) := by decide +kernel
theorem dX7_spoil_35 : decode cX7_spoil 35 = .ok (.iaload, 1) := by decide +kernel
theorem dX7_spoil_36 : decode cX7_spoil 36 = .ok (.invokestatic 66, 3) := by decide +kernel
theorem dX7_spoil_39 : decode cX7_spoil 39 = .ok (.ifCond .ne 5, 3) := by decide +kernel
theorem dX7_spoil_42 : decode cX7_spoil 42 = .ok (.iconst 0, 1) := by decide +kernel
theorem dX7_spoil_43 : decode cX7_spoil 43 = .ok (.ireturn, 1) := by decide +kernel
theorem dX7_spoil_44 : decode cX7_spoil 44 = .ok (.aload 4, 2) := by decide +kernel
theorem dX7_spoil_46 : decode cX7_spoil 46 = .ok (.getfield 148, 3) := by decide +kernel
theorem dX7_spoil_49 : decode cX7_spoil 49 = .ok (.iload_n 2, 1) := by decide +kernel
theorem dX7_spoil_50 : decode cX7_spoil 50 = .ok (.dup2, 1) := by decide +kernel
theorem dX7_spoil_51 : decode cX7_spoil 51 = .ok (.iaload, 1) := by decide +kernel
theorem dX7_spoil_52 : decode cX7_spoil 52 = .ok (.iload_n 3, 1) := by decide +kernel
theorem dX7_spoil_53 : decode cX7_spoil 53 = .ok (.isub, 1) := by decide +kernel
theorem dX7_spoil_54 : decode cX7_spoil 54 = .ok (.iastore, 1) := by decide +kernel
theorem dX7_spoil_55 : decode cX7_spoil 55 = .ok (.aload 4, 2) := by decide +kernel
theorem dX7_spoil_57 : decode cX7_spoil 57 = .ok (.iconst 1, 1) := by decide +kernel
theorem dX7_spoil_58 : decode cX7_spoil 58 = .ok (.putfield 155, 3) := by decide +kernel
theorem dX7_spoil_61 : decode cX7_spoil 61 = .ok (.aload_n 0, 1) := by decide +kernel
theorem dX7_spoil_62 : decode cX7_spoil 62 = .ok (.getfield 41, 3) := by decide +kernel
theorem dX7_spoil_65 : decode cX7_spoil 65 = .ok (.iload_n 2, 1) := by decide +kernel
theorem dX7_spoil_66 : decode cX7_spoil 66 = .ok (.aaload, 1) := by decide +kernel
theorem dX7_spoil_67 : decode cX7_spoil 67 = .ok (.iconst 5, 1) := by decide +kernel
theorem dX7_spoil_68 : decode cX7_spoil 68 = .ok (.dup2, 1) := by decide +kernel
theorem dX7_spoil_69 : decode cX7_spoil 69 = .ok (.iaload, 1) := by decide +kernel
theorem dX7_spoil_70 : decode cX7_spoil 70 = .ok (.iload_n 3, 1) := by decide +kernel
theorem dX7_spoil_71 : decode cX7_spoil 71 = .ok (.iadd, 1) := by decide +kernel
theorem dX7_spoil_72 : decode cX7_spoil 72 = .ok (.iastore, 1) := by decide +kernel
theorem dX7_spoil_73 : decode cX7_spoil 73 = .ok (.iconst 1, 1) := by decide +kernel
theorem dX7_spoil_74 : decode cX7_spoil 74 = .ok (.ireturn, 1) := by decide +kernel
set_option maxRecDepth 20000 in
set_option maxRecDepth 100000 in
theorem ggX7_go_X7_isWithin : GoodIn wsX7_go wsX7_isWithin := goodIn_r _ [6] rfl (by decide +kernel)
set_option maxRecDepth 20000 in
theorem gX7_go_X7_isWithin : GoodIn wsX7_go (va_wsS RX7 66 yX7_isWithin wsX7_isWithin) := goodIn_app (goodIn_of _ (by decide +kernel)) ggX7_go_X7_isWithin
set_option maxRecDepth 20000 in
set_option maxRecDepth 100000 in
theorem ggX7_go_X7_moveCanoe : GoodIn wsX7_go wsX7_moveCanoe := goodIn_r _ [10, 11, 12, 13, 1, 14, 15, 16, 17, 5, 18, 19, 20, 21, 22, 23, 24, 25, 26, 27, 28, 29, 30, 31, 32, 33, 34, 35, 36, 4, 6, 37, 38, 39, 40, 41, 42, 43, 44, 45, 46, 47, 48, 49, 50, 51, 52, 53, 54, 55, 56, 57, 58, 59, 60, 61, 62, 63, 64, 65, 66, 67, 68, 69, 70, 71, 72, 73, 74, 75, 76, 77, 78, 79, 80, 81, 82, 83, 84, 85, 86, 87, 88, 89, 90, 105, 106, 107, 108, 109, 110, 111, 112, 113, 114, 115, 91, 92, 93, 94, 95, 96, 97, 98, 99, 100, 101, 102, 103, 104, 116, 117, 118, 119, 120, 121, 122, 123, 124, 125, 126, 127, 128, 129, 130, 131, 132, 133, 134, 135, 136, 137, 138, 139, 140, 141, 142, 143] rfl (by decide +kernel)
set_option maxRecDepth 20000 in
theorem gX7_go_X7_moveCanoe : GoodIn wsX7_go (wsV RX7 159 RX7 yX7_moveCanoe wsX7_moveCanoe) := goodIn_app (goodIn_of _ (by decide +kernel)) ggX7_go_X7_moveCanoe
theorem dX7_go_0 : decode cX7_go 0 = .ok (.iload_n 1, 1) := by decide +kernel
theorem dX7_go_1 : decode cX7_go 1 = .ok (.iconst 0, 1) := by decide +kernel
theorem dX7_go_2 : decode cX7_go 2 = .ok (.sipush 400, 3) := by decide +kernel
theorem dX7_go_5 : decode cX7_go 5 = .ok (.invokestatic 66, 3) := by decide +kernel
theorem dX7_go_8 : decode cX7_go 8 = .ok (.ifCond .ne 5, 3) := by decide +kernel
theorem dX7_go_11 : decode cX7_go 11 = .ok (.iconst (-1), 1) := by decide +kernel
theorem dX7_go_12 : decode cX7_go 12 = .ok (.ireturn, 1) := by decide +kernel
theorem dX7_go_13 : decode cX7_go 13 = .ok (.iconst 0, 1) := by decide +kernel
theorem dX7_go_14 : decode cX7_go 14 = .ok (.istore_n 2, 1) := by decide +kernel
theorem dX7_go_15 : decode cX7_go 15 = .ok (.iload_n 2, 1) := by decide +kernel
theorem dX7_go_16 : decode cX7_go 16 = .ok (.iload_n 1, 1) := by decide +kernel
theorem dX7_go_17 : decode cX7_go 17 = .ok (.if_icmp .ge 50, 3) := by decide +kernel
theorem dX7_go_20 : decode cX7_go 20 = .ok (.aload_n 0, 1) := by decide +kernel
theorem dX7_go_21 : decode cX7_go 21 = .ok (.getfield 103, 3) := by decide +kernel
theorem dX7_go_24 : decode cX7_go 24 = .ok (.sipush 3000, 3) := by decide +kernel
theorem dX7_go_27 : decode cX7_go 27 = .ok (.if_icmp .ge 40, 3) := by decide +kernel
theorem dX7_go_30 : decode cX7_go 30 = .ok (.iconst 0, 1) := by decide +kernel
theorem dX7_go_31 : decode cX7_go 31 = .ok (.istore_n 3, 1) := by decide +kernel
theorem dX7_go_32 : decode cX7_go 32 = .ok (.iload_n 3, 1) := by decide +kernel
theorem dX7_go_33 : decode cX7_go 33 = .ok (.aload_n 0, 1) := by decide +kernel
theorem dX7_go_34 : decode cX7_go 34 = .ok (.getfield 113, 3) := by decide +kernel
theorem dX7_go_37 : decode cX7_go 37 = .ok (.if_icmp .ge 14, 3) := by decide +kernel
theorem dX7_go_40 : decode cX7_go 40 = .ok (.aload_n 0, 1) := by decide +kernel
theorem dX7_go_41 : decode cX7_go 41 = .ok (.iload_n 3, 1) := by decide +kernel
theorem dX7_go_42 : decode cX7_go 42 = .ok (.invokevirtual 159, 3) := by decide +kernel
theorem dX7_go_45 : decode cX7_go 45 = .ok (.iinc 3 1, 3) := by decide +kernel
theorem dX7_go_48 : decode cX7_go 48 = .ok (.goto (-16), 3) := by decide +kernel
theorem dX7_go_51 : decode cX7_go 51 = .ok (.aload_n 0, 1) := by decide +kernel
theorem dX7_go_52 : decode cX7_go 52 = .ok (.dup, 1) := by decide +kernel
theorem dX7_go_53 : decode cX7_go 53 = .ok (.getfield 103, 3) := by decide +kernel
theorem dX7_go_56 : decode cX7_go 56 = .ok (.iconst 1, 1) := by decide +kernel
theorem dX7_go_57 : decode cX7_go 57 = .ok (.iadd, 1) := by decide +kernel
theorem dX7_go_58 : decode cX7_go 58 = .ok (.putfield 103, 3) := by decide +kernel
theorem dX7_go_61 : decode cX7_go 61 = .ok (.iinc 2 1, 3) := by decide +kernel
theorem dX7_go_64 : decode cX7_go 64 = .ok (.goto (-49), 3) := by decide +kernel
theorem dX7_go_67 : decode cX7_go 67 = .ok (.aload_n 0, 1) := by decide +kernel
theorem dX7_go_68 : decode cX7_go 68 = .ok (.getfield 103, 3) := by decide +kernel
theorem dX7_go_71 : decode cX7_go 71 = .ok (.ireturn, 1) := by decide +kernel
theorem dX7_canLoad_0 : decode cX7_canLoad 0 = .ok (.iconst 0, 1) := by decide +kernel
theorem dX7_canLoad_1 : decode cX7_canLoad 1 = .ok (.istore_n 3, 1) := by decide +kernel
theorem dX7_canLoad_2 : decode cX7_canLoad 2 = .ok (.iconst 0, 1) := by decide +kernel
theorem dX7_canLoad_3 : decode cX7_canLoad 3 = .ok (.istore 4, 2) := by decide +kernel
theorem dX7_canLoad_5 : decode cX7_canLoad 5 = .ok (.iload 4, 2) := by decide +kernel
theorem dX7_canLoad_7 : decode cX7_canLoad 7 = .ok (.bipush 6, 2) := by decide +kernel
theorem dX7_canLoad_9 : decode cX7_canLoad 9 = .ok (.if_icmp .ge 38, 3) := by decide +kernel
theorem dX7_canLoad_12 : decode cX7_canLoad 12 = .ok (.aload_n 0, 1) := by decide +kernel
theorem dX7_canLoad_13 : decode cX7_canLoad 13 = .ok (.getfield 44, 3) := by decide +kernel
theorem dX7_canLoad_16 : decode cX7_canLoad 16 = .ok (.iload 4, 2) := by decide +kernel
theorem dX7_canLoad_18 : decode cX7_canLoad 18 = .ok (.iaload, 1) := by decide +kernel
theorem dX7_canLoad_19 : decode cX7_canLoad 19 = .ok (.aload_n 1, 1) := by decide +kernel
theorem dX7_canLoad_20 : decode cX7_canLoad 20 = .ok (.getfield 92, 3) := by decide +kernel
theorem dX7_canLoad_23 : decode cX7_canLoad 23 = .ok (.iload 4, 2) := by decide +kernel
theorem dX7_canLoad_25 : decode cX7_canLoad 25 = .ok (.iaload, 1) := by decide +kernel
theorem dX7_canLoad_26 : decode cX7_canLoad 26 = .ok (.if_icmp .le 5, 3) := by decide +kernel
theorem dX7_canLoad_29 : decode cX7_canLoad 29 = .ok (.iconst 0, 1) := by decide +kernel
theorem dX7_canLoad_30 : decode cX7_canLoad 30 = .ok (.ireturn, 1) := by decide +kernel
theorem dX7_canLoad_31 : decode cX7_canLoad 31 = .ok (.iload_n 3, 1) := by decide +kernel
theorem dX7_canLoad_32 : decode cX7_canLoad 32 = .ok (.aload_n 0, 1) := by decide +kernel
theorem dX7_canLoad_33 : decode cX7_canLoad 33 = .ok (.getfield 44, 3) := by decide +kernel
theorem dX7_canLoad_36 : decode cX7_canLoad 36 = .ok (.iload 4, 2) := by decide +kernel
theorem dX7_canLoad_38 : decode cX7_canLoad 38 = .ok (.iaload, 1) := by decide +kernel
theorem dX7_canLoad_39 : decode cX7_canLoad 39 = .ok (.iadd, 1) := by decide +kernel
theorem dX7_canLoad_40 : decode cX7_canLoad 40 = .ok (.istore_n 3, 1) := by decide +kernel
theorem dX7_canLoad_41 : decode cX7_canLoad 41 = .ok (.iinc 4 1, 3) := by decide +kernel
theorem dX7_canLoad_44 : decode cX7_canLoad 44 = .ok (.goto (-39), 3) := by decide +kernel
theorem dX7_canLoad_47 : decode cX7_canLoad 47 = .ok (.iload_n 3, 1) := by decide +kernel
theorem dX7_canLoad_48 : decode cX7_canLoad 48 = .ok (.aload_n 2, 1) := by decide +kernel
theorem dX7_canLoad_49 : decode cX7_canLoad 49 = .ok (.getfield 162, 3) := by decide +kernel
theorem dX7_canLoad_52 : decode cX7_canLoad 52 = .ok (.if_icmp .gt 7, 3) := by decide +kernel
theorem dX7_canLoad_55 : decode cX7_canLoad 55 = .ok (.iconst 1, 1) := by decide +kernel
theorem dX7_canLoad_56 : decode cX7_canLoad 56 = .ok (.goto 4, 3) := by decide +kernel
theorem dX7_canLoad_59 : decode cX7_canLoad 59 = .ok (.iconst 0, 1) := by decide +kernel
theorem dX7_canLoad_60 : decode cX7_canLoad 60 = .ok (.ireturn, 1) := by decide +kernel
set_option maxRecDepth 20000 in
set_option maxRecDepth 100000 in
theorem ggX7_takeLetters_X7_letterAt : GoodIn wsX7_takeLetters wsX7_letterAt := goodIn_r _ [11, 12, 27, 28, 29, 30, 31, 32, 33, 34, 35, 36, 37, 38, 39, 40] rfl (by decide +kernel)
set_option maxRecDepth 20000 in
theorem gX7_takeLetters_X7_letterAt : GoodIn wsX7_takeLetters (wsV RX7 168 RX7 yX7_letterAt wsX7_letterAt) := goodIn_app (goodIn_of _ (by decide +kernel)) ggX7_takeLetters_X7_letterAt
set_option maxRecDepth 20000 in
set_option maxRecDepth 100000 in
theorem ggX7_takeLetters_X7_next : GoodIn wsX7_takeLetters wsX7_next := goodIn_r _ [16, 17, 18, 19, 20, 10, 21, 22, 23, 24, 25, 26, 27, 28, 29, 30, 31, 32, 33, 34, 35, 36, 37, 38, 39, 40] rfl (by decide +kernel)
set_option maxRecDepth 20000 in
theorem gX7_takeLetters_X7_next : GoodIn wsX7_takeLetters (wsV RX7 181 RX7 yX7_next wsX7_next) := goodIn_app (goodIn_of _ (by decide +kernel)) ggX7_takeLetters_X7_next
theorem dX7_takeLetters_0 : decode cX7_takeLetters 0 = .ok (.iconst 0, 1) := by decide +kernel
theorem dX7_takeLetters_1 : decode cX7_takeLetters 1 = .ok (.istore_n 3, 1) := by decide +kernel
theorem dX7_takeLetters_2 : decode cX7_takeLetters 2 = .ok (.iconst 0, 1) := by decide +kernel
theorem dX7_takeLetters_3 : decode cX7_takeLetters 3 = .ok (.istore 4, 2) := by decide +kernel
theorem dX7_takeLetters_5 : decode cX7_takeLetters 5 = .ok (.iload 4, 2) := by decide +kernel
theorem dX7_takeLetters_7 : decode cX7_takeLetters 7 = .ok (.aload_n 0, 1) := by decide +kernel
theorem dX7_takeLetters_8 : decode cX7_takeLetters 8 = .ok (.getfield 165, 3) := by decide +kernel
theorem dX7_takeLetters_11 : decode cX7_takeLetters 11 = .ok (.if_icmp .ge 69, 3) := by decide +kernel
theorem dX7_takeLetters_14 : decode cX7_takeLetters 14 = .ok (.aload_n 0, 1) := by decide +kernel
theorem dX7_takeLetters_15 : decode cX7_takeLetters 15 = .ok (.iload 4, 2) := by decide +kernel
theorem dX7_takeLetters_17 : decode cX7_takeLetters 17 = .ok (.invokevirtual 168, 3) := by decide +kernel
theorem dX7_takeLetters_20 : decode cX7_takeLetters 20 = .ok (.astore 5, 2) := by decide +kernel
theorem dX7_takeLetters_22 : decode cX7_takeLetters 22 = .ok (.aload 5, 2) := by decide +kernel
theorem dX7_takeLetters_24 : decode cX7_takeLetters 24 = .ok (.ifnull 50, 3) := by decide +kernel
theorem dX7_takeLetters_27 : decode cX7_takeLetters 27 = .ok (.aload 5, 2) := by decide +kernel
theorem dX7_takeLetters_29 : decode cX7_takeLetters 29 = .ok (.getfield 172, 3) := by decide +kernel
theorem dX7_takeLetters_32 : decode cX7_takeLetters 32 = .ok (.aload_n 2, 1) := by decide +kernel
theorem dX7_takeLetters_33 : decode cX7_takeLetters 33 = .ok (.getfield 175, 3) := by decide +kernel
theorem dX7_takeLetters_36 : decode cX7_takeLetters 36 = .ok (.if_icmp .ne 38, 3) := by decide +kernel
theorem dX7_takeLetters_39 : decode cX7_takeLetters 39 = .ok (.aload_n 0, 1) := by decide +kernel
theorem dX7_takeLetters_40 : decode cX7_takeLetters 40 = .ok (.aload_n 2, 1) := by decide +kernel
theorem dX7_takeLetters_41 : decode cX7_takeLetters 41 = .ok (.getfield 175, 3) := by decide +kernel
theorem dX7_takeLetters_44 : decode cX7_takeLetters 44 = .ok (.aload 5, 2) := by decide +kernel
theorem dX7_takeLetters_46 : decode cX7_takeLetters 46 = .ok (.getfield 178, 3) := by decide +kernel
theorem dX7_takeLetters_49 : decode cX7_takeLetters 49 = .ok (.invokevirtual 181, 3) := by decide +kernel
theorem dX7_takeLetters_52 : decode cX7_takeLetters 52 = .ok (.aload_n 2, 1) := by decide +kernel
theorem dX7_takeLetters_53 : decode cX7_takeLetters 53 = .ok (.getfield 184, 3) := by decide +kernel
theorem dX7_takeLetters_56 : decode cX7_takeLetters 56 = .ok (.if_icmp .ne 18, 3) := by decide +kernel
theorem dX7_takeLetters_59 : decode cX7_takeLetters 59 = .ok (.aload 5, 2) := by decide +kernel
theorem dX7_takeLetters_61 : decode cX7_takeLetters 61 = .ok (.iconst (-1), 1) := by decide +kernel
theorem dX7_takeLetters_62 : decode cX7_takeLetters 62 = .ok (.putfield 172, 3) := by decide +kernel
theorem dX7_takeLetters_65 : decode cX7_takeLetters 65 = .ok (.aload 5, 2) := by decide +kernel
theorem dX7_takeLetters_67 : decode cX7_takeLetters 67 = .ok (.iload_n 1, 1) := by decide +kernel
theorem dX7_takeLetters_68 : decode cX7_takeLetters 68 = .ok (.putfield 185, 3) := by decide +kernel
theorem dX7_takeLetters_71 : decode cX7_takeLetters 71 = .ok (.iinc 3 1, 3) := by decide +kernel
theorem dX7_takeLetters_74 : decode cX7_takeLetters 74 = .ok (.iinc 4 1, 3) := by decide +kernel
theorem dX7_takeLetters_77 : decode cX7_takeLetters 77 = .ok (.goto (-72), 3) := by decide +kernel
theorem dX7_takeLetters_80 : decode cX7_takeLetters 80 = .ok (.iload_n 3, 1) := by decide +kernel
theorem dX7_takeLetters_81 : decode cX7_takeLetters 81 = .ok (.ireturn, 1) := by decide +kernel
set_option maxRecDepth 20000 in
set_option maxRecDepth 100000 in
theorem ggX7_loseLetters_X7_letterAt : GoodIn wsX7_loseLetters wsX7_letterAt := goodIn_r _ [9, 10, 11, 12, 13, 14, 15, 16, 17, 18, 19, 20, 21, 22, 23, 24] rfl (by decide +kernel)
set_option maxRecDepth 20000 in
theorem gX7_loseLetters_X7_letterAt : GoodIn wsX7_loseLetters (wsV RX7 168 RX7 yX7_letterAt wsX7_letterAt) := goodIn_app (goodIn_of _ (by decide +kernel)) ggX7_loseLetters_X7_letterAt
theorem dX7_loseLetters_0 : decode cX7_loseLetters 0 = .ok (.iconst 0, 1) := by decide +kernel
theorem dX7_loseLetters_1 : decode cX7_loseLetters 1 = .ok (.istore_n 2, 1) := by decide +kernel
theorem dX7_loseLetters_2 : decode cX7_loseLetters 2 = .ok (.iload_n 2, 1) := by decide +kernel
theorem dX7_loseLetters_3 : decode cX7_loseLetters 3 = .ok (.aload_n 0, 1) := by decide +kernel
theorem dX7_loseLetters_4 : decode cX7_loseLetters 4 = .ok (.getfield 165, 3) := by decide +kernel
theorem dX7_loseLetters_7 : decode cX7_loseLetters 7 = .ok (.if_icmp .ge 49, 3) := by decide +kernel
theorem dX7_loseLetters_10 : decode cX7_loseLetters 10 = .ok (.aload_n 0, 1) := by decide +kernel
theorem dX7_loseLetters_11 : decode cX7_loseLetters 11 = .ok (.iload_n 2, 1) := by decide +kernel
theorem dX7_loseLetters_12 : decode cX7_loseLetters 12 = .ok (.invokevirtual 168, 3) := by decide +kernel
theorem dX7_loseLetters_15 : decode cX7_loseLetters 15 = .ok (.astore_n 3, 1) := by decide +kernel
theorem dX7_loseLetters_16 : decode cX7_loseLetters 16 = .ok (.aload_n 3, 1) := by decide +kernel
theorem dX7_loseLetters_17 : decode cX7_loseLetters 17 = .ok (.ifnull 33, 3) := by decide +kernel
theorem dX7_loseLetters_20 : decode cX7_loseLetters 20 = .ok (.aload_n 3, 1) := by decide +kernel
theorem dX7_loseLetters_21 : decode cX7_loseLetters 21 = .ok (.getfield 185, 3) := by decide +kernel
theorem dX7_loseLetters_24 : decode cX7_loseLetters 24 = .ok (.iload_n 1, 1) := by decide +kernel
theorem dX7_loseLetters_25 : decode cX7_loseLetters 25 = .ok (.if_icmp .ne 25, 3) := by decide +kernel
theorem dX7_loseLetters_28 : decode cX7_loseLetters 28 = .ok (.aload_n 3, 1) := by decide +kernel
theorem dX7_loseLetters_29 : decode cX7_loseLetters 29 = .ok (.iconst (-1), 1) := by decide +kernel
theorem dX7_loseLetters_30 : decode cX7_loseLetters 30 = .ok (.putfield 185, 3) := by decide +kernel
theorem dX7_loseLetters_33 : decode cX7_loseLetters 33 = .ok (.aload_n 3, 1) := by decide +kernel
theorem dX7_loseLetters_34 : decode cX7_loseLetters 34 = .ok (.instanceof 188, 3) := by decide +kernel
theorem dX7_loseLetters_37 : decode cX7_loseLetters 37 = .ok (.ifCond .eq 13, 3) := by decide +kernel
theorem dX7_loseLetters_40 : decode cX7_loseLetters 40 = .ok (.aload_n 0, 1) := by decide +kernel
theorem dX7_loseLetters_41 : decode cX7_loseLetters 41 = .ok (.dup, 1) := by decide +kernel
theorem dX7_loseLetters_42 : decode cX7_loseLetters 42 = .ok (.getfield 190, 3) := by decide +kernel
theorem dX7_loseLetters_45 : decode cX7_loseLetters 45 = .ok (.iconst 1, 1) := by decide +kernel
theorem dX7_loseLetters_46 : decode cX7_loseLetters 46 = .ok (.iadd, 1) := by decide +kernel
theorem dX7_loseLetters_47 : decode cX7_loseLetters 47 = .ok (.putfield 190, 3) := by decide +kernel
theorem dX7_loseLetters_50 : decode cX7_loseLetters 50 = .ok (.iinc 2 1, 3) := by decide +kernel
theorem dX7_loseLetters_53 : decode cX7_loseLetters 53 = .ok (.goto (-51), 3) := by decide +kernel
theorem dX7_loseLetters_56 : decode cX7_loseLetters 56 = .ok (.return_, 1) := by decide +kernel
set_option maxRecDepth 20000 in
set_option maxRecDepth 100000 in
theorem ggX7_moveCanoe_X7_canoeAt : GoodIn wsX7_moveCanoe wsX7_canoeAt := goodIn_r _ [10, 11, 96, 97, 98, 99, 100, 101, 102, 103, 104, 105, 106, 107, 108, 109] rfl (by decide +kernel)
set_option maxRecDepth 20000 in
theorem gX7_moveCanoe_X7_canoeAt : GoodIn wsX7_moveCanoe (wsV RX7 138 RX7 yX7_canoeAt wsX7_canoeAt) := goodIn_app (goodIn_of _ (by decide +kernel)) ggX7_moveCanoe_X7_canoeAt
set_option maxRecDepth 20000 in
set_option maxRecDepth 100000 in
theorem ggX7_moveCanoe_X7_wayAt : GoodIn wsX7_moveCanoe wsX7_wayAt := goodIn_r _ [15, 16, 96, 97, 98, 99, 100, 101, 102, 103, 104, 105, 106, 107, 108, 109] rfl (by decide +kernel)
set_option maxRecDepth 20000 in
theorem gX7_moveCanoe_X7_wayAt : GoodIn wsX7_moveCanoe (wsV RX7 96 RX7 yX7_wayAt wsX7_wayAt) := goodIn_app (goodIn_of _ (by decide +kernel)) ggX7_moveCanoe_X7_wayAt
set_option maxRecDepth 20000 in
set_option maxRecDepth 100000 in
theorem ggX7_moveCanoe_X7_postAt : GoodIn wsX7_moveCanoe wsX7_postAt := goodIn_r _ [20, 21, 96, 97, 98, 99, 100, 101, 102, 103, 104, 105, 106, 107, 108, 109] rfl (by decide +kernel)
set_option maxRecDepth 20000 in
theorem gX7_moveCanoe_X7_postAt : GoodIn wsX7_moveCanoe (wsV RX7 84 RX7 yX7_postAt wsX7_postAt) := goodIn_app (goodIn_of _ (by decide +kernel)) ggX7_moveCanoe_X7_postAt
set_option maxRecDepth 20000 in
set_option maxRecDepth 100000 in
theorem ggX7_moveCanoe_X6_isOpenOn : GoodIn wsX7_moveCanoe wsX6_isOpenOn := goodIn_r _ [26, 27, 28, 29, 9, 30, 110, 111, 112, 113, 114, 115] rfl (by decide +kernel)
set_option maxRecDepth 20000 in
theorem gX7_moveCanoe_X6_isOpenOn : GoodIn wsX7_moveCanoe (wsV RX7 106 RX6 yX6_isOpenOn wsX6_isOpenOn) := goodIn_app (goodIn_of _ (by decide +kernel)) ggX7_moveCanoe_X6_isOpenOn
set_option maxRecDepth 20000 in
set_option maxRecDepth 100000 in
theorem ggX7_moveCanoe_X7_landCanoe : GoodIn wsX7_moveCanoe wsX7_landCanoe := goodIn_r _ [34, 1, 4, 35, 36, 37, 85, 86, 87, 88, 89, 90, 91, 92, 93, 94, 95, 96, 97, 98, 99, 100, 101, 102, 103, 104, 105, 106, 107, 108, 109, 116, 117, 118, 119] rfl (by decide +kernel)
set_option maxRecDepth 20000 in
theorem gX7_moveCanoe_X7_landCanoe : GoodIn wsX7_moveCanoe (wsV RX7 196 RX7 yX7_landCanoe wsX7_landCanoe) := goodIn_app (goodIn_of _ (by decide +kernel)) ggX7_moveCanoe_X7_landCanoe
set_option maxRecDepth 20000 in
set_option maxRecDepth 100000 in
theorem ggX7_moveCanoe_X7_landLetters : GoodIn wsX7_moveCanoe wsX7_landLetters := goodIn_r _ [41, 42, 43, 44, 45, 46, 47, 48, 9, 49, 50, 51, 52, 53, 54, 55, 56, 57, 58, 59, 60, 61, 62, 63, 64, 65, 66, 67, 68, 69, 70, 71, 72, 73, 74, 75, 76, 77, 78, 79, 80, 81, 82, 83, 84, 96, 97, 98, 99, 100, 101, 102, 103, 104, 105, 106, 107, 108, 109, 120, 121, 122, 123, 124, 125, 126, 127, 128, 129, 130, 131, 132, 133, 134, 135, 136, 137, 116, 117, 118, 119] rfl (by decide +kernel)
set_option maxRecDepth 20000 in
theorem gX7_moveCanoe_X7_landLetters : GoodIn wsX7_moveCanoe (wsV RX7 200 RX7 yX7_landLetters wsX7_landLetters) := goodIn_app (goodIn_of _ (by decide +kernel)) ggX7_moveCanoe_X7_landLetters
theorem dX7_moveCanoe_0 : decode cX7_moveCanoe 0 = .ok (.aload_n 0, 1) := by decide +kernel
theorem dX7_moveCanoe_1 : decode cX7_moveCanoe 1 = .ok (.iload_n 1, 1) := by decide +kernel
theorem dX7_moveCanoe_2 : decode cX7_moveCanoe 2 = .ok (.invokevirtual 138, 3) := by decide +kernel
theorem dX7_moveCanoe_5 : decode cX7_moveCanoe 5 = .ok (.astore_n 2, 1) := by decide +kernel
theorem dX7_moveCanoe_6 : decode cX7_moveCanoe 6 = .ok (.aload_n 2, 1) := by decide +kernel
theorem dX7_moveCanoe_7 : decode cX7_moveCanoe 7 = .ok (.ifnull 10, 3) := by decide +kernel
theorem dX7_moveCanoe_10 : decode cX7_moveCanoe 10 = .ok (.aload_n 2, 1) := by decide +kernel
theorem dX7_moveCanoe_11 : decode cX7_moveCanoe 11 = .ok (.getfield 142, 3) := by decide +kernel
theorem dX7_moveCanoe_14 : decode cX7_moveCanoe 14 = .ok (.ifCond .eq 4, 3) := by decide +kernel
theorem dX7_moveCanoe_17 : decode cX7_moveCanoe 17 = .ok (.return_, 1) := by decide +kernel
theorem dX7_moveCanoe_18 : decode cX7_moveCanoe 18 = .ok (.aload_n 0, 1) := by decide +kernel
theorem dX7_moveCanoe_19 : decode cX7_moveCanoe 19 = .ok (.aload_n 2, 1) := by decide +kernel
theorem dX7_moveCanoe_20 : decode cX7_moveCanoe 20 = .ok (.getfield 193, 3) := by decide +kernel
theorem dX7_moveCanoe_23 : decode cX7_moveCanoe 23 = .ok (.invokevirtual 96, 3) := by decide +kernel
theorem dX7_moveCanoe_26 : decode cX7_moveCanoe 26 = .ok (.astore_n 3, 1) := by decide +kernel
theorem dX7_moveCanoe_27 : decode cX7_moveCanoe 27 = .ok (.aload_n 0, 1) := by decide +kernel
theorem dX7_moveCanoe_28 : decode cX7_moveCanoe 28 = .ok (.aload_n 2, 1) := by decide +kernel
theorem dX7_moveCanoe_29 : decode cX7_moveCanoe 29 = .ok (.getfield 184, 3) := by decide +kernel
theorem dX7_moveCanoe_32 : decode cX7_moveCanoe 32 = .ok (.invokevirtual 84, 3) := by decide +kernel
theorem dX7_moveCanoe_35 : decode cX7_moveCanoe 35 = .ok (.astore 4, 2) := by decide +kernel
theorem dX7_moveCanoe_37 : decode cX7_moveCanoe 37 = .ok (.aload_n 3, 1) := by decide +kernel
theorem dX7_moveCanoe_38 : decode cX7_moveCanoe 38 = .ok (.ifnull 19, 3) := by decide +kernel
theorem dX7_moveCanoe_41 : decode cX7_moveCanoe 41 = .ok (.aload 4, 2) := by decide +kernel
theorem dX7_moveCanoe_43 : decode cX7_moveCanoe 43 = .ok (.ifnull 14, 3) := by decide +kernel
theorem dX7_moveCanoe_46 : decode cX7_moveCanoe 46 = .ok (.aload_n 3, 1) := by decide +kernel
theorem dX7_moveCanoe_47 : decode cX7_moveCanoe 47 = .ok (.aload_n 0, 1) := by decide +kernel
theorem dX7_moveCanoe_48 : decode cX7_moveCanoe 48 = .ok (.getfield 103, 3) := by decide +kernel
theorem dX7_moveCanoe_51 : decode cX7_moveCanoe 51 = .ok (.invokevirtual 106, 3) := by decide +kernel
theorem dX7_moveCanoe_54 : decode cX7_moveCanoe 54 = .ok (.ifCond .ne 4, 3) := by decide +kernel
theorem dX7_moveCanoe_57 : decode cX7_moveCanoe 57 = .ok (.return_, 1) := by decide +kernel
theorem dX7_moveCanoe_58 : decode cX7_moveCanoe 58 = .ok (.aload_n 2, 1) := by decide +kernel
theorem dX7_moveCanoe_59 : decode cX7_moveCanoe 59 = .ok (.dup, 1) := by decide +kernel
theorem dX7_moveCanoe_60 : decode cX7_moveCanoe 60 = .ok (.getfield 145, 3) := by decide +kernel
theorem dX7_moveCanoe_63 : decode cX7_moveCanoe 63 = .ok (.iconst 1, 1) := by decide +kernel
theorem dX7_moveCanoe_64 : decode cX7_moveCanoe 64 = .ok (.isub, 1) := by decide +kernel
theorem dX7_moveCanoe_65 : decode cX7_moveCanoe 65 = .ok (.putfield 145, 3) := by decide +kernel
theorem dX7_moveCanoe_68 : decode cX7_moveCanoe 68 = .ok (.aload_n 2, 1) := by decide +kernel
theorem dX7_moveCanoe_69 : decode cX7_moveCanoe 69 = .ok (.getfield 145, 3) := by decide +kernel
theorem dX7_moveCanoe_72 : decode cX7_moveCanoe 72 = .ok (.ifCond .ne 21, 3) := by decide +kernel
theorem dX7_moveCanoe_75 : decode cX7_moveCanoe 75 = .ok (.aload_n 0, 1) := by decide +kernel
theorem dX7_moveCanoe_76 : decode cX7_moveCanoe 76 = .ok (.aload_n 2, 1) := by decide +kernel
theorem dX7_moveCanoe_77 : decode cX7_moveCanoe 77 = .ok (.aload 4, 2) := by decide +kernel
theorem dX7_moveCanoe_79 : decode cX7_moveCanoe 79 = .ok (.invokevirtual 196, 3) := by decide +kernel
theorem dX7_moveCanoe_82 : decode cX7_moveCanoe 82 = .ok (.aload_n 0, 1) := by decide +kernel
theorem dX7_moveCanoe_83 : decode cX7_moveCanoe 83 = .ok (.iload_n 1, 1) := by decide +kernel
theorem dX7_moveCanoe_84 : decode cX7_moveCanoe 84 = .ok (.aload_n 2, 1) := by decide +kernel
theorem dX7_moveCanoe_85 : decode cX7_moveCanoe 85 = .ok (.getfield 184, 3) := by decide +kernel
theorem dX7_moveCanoe_88 : decode cX7_moveCanoe 88 = .ok (.aload 4, 2) := by decide +kernel
theorem dX7_moveCanoe_90 : decode cX7_moveCanoe 90 = .ok (.invokevirtual 200, 3) := by decide +kernel
theorem dX7_moveCanoe_93 : decode cX7_moveCanoe 93 = .ok (.return_, 1) := by decide +kernel
theorem dX7_landCanoe_0 : decode cX7_landCanoe 0 = .ok (.aload_n 1, 1) := by decide +kernel
theorem dX7_landCanoe_1 : decode cX7_landCanoe 1 = .ok (.iconst 1, 1) := by decide +kernel
theorem dX7_landCanoe_2 : decode cX7_landCanoe 2 = .ok (.putfield 142, 3) := by decide +kernel
theorem dX7_landCanoe_5 : decode cX7_landCanoe 5 = .ok (.aload_n 1, 1) := by decide +kernel
theorem dX7_landCanoe_6 : decode cX7_landCanoe 6 = .ok (.aload_n 0, 1) := by decide +kernel
theorem dX7_landCanoe_7 : decode cX7_landCanoe 7 = .ok (.getfield 103, 3) := by decide +kernel
theorem dX7_landCanoe_10 : decode cX7_landCanoe 10 = .ok (.putfield 204, 3) := by decide +kernel
theorem dX7_landCanoe_13 : decode cX7_landCanoe 13 = .ok (.iconst 0, 1) := by decide +kernel
theorem dX7_landCanoe_14 : decode cX7_landCanoe 14 = .ok (.istore_n 3, 1) := by decide +kernel
theorem dX7_landCanoe_15 : decode cX7_landCanoe 15 = .ok (.iload_n 3, 1) := by decide +kernel
theorem dX7_landCanoe_16 : decode cX7_landCanoe 16 = .ok (.bipush 6, 2) := by decide +kernel
theorem dX7_landCanoe_18 : decode cX7_landCanoe 18 = .ok (.if_icmp .ge 31, 3) := by decide +kernel
theorem dX7_landCanoe_21 : decode cX7_landCanoe 21 = .ok (.aload_n 2, 1) := by decide +kernel
theorem dX7_landCanoe_22 : decode cX7_landCanoe 22 = .ok (.getfield 92, 3) := by decide +kernel
