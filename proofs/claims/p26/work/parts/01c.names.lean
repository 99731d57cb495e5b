theorem dX7_landCanoe_25 : decode cX7_landCanoe 25 = .ok (.iload_n 3, 1) := by decide +kernel
theorem dX7_landCanoe_26 : decode cX7_landCanoe 26 = .ok (.dup2, 1) := by decide +kernel
theorem dX7_landCanoe_27 : decode cX7_landCanoe 27 = .ok (.iaload, 1) := by decide +kernel
theorem dX7_landCanoe_28 : decode cX7_landCanoe 28 = .ok (.aload_n 1, 1) := by decide +kernel
theorem dX7_landCanoe_29 : decode cX7_landCanoe 29 = .ok (.getfield 148, 3) := by decide +kernel
theorem dX7_landCanoe_32 : decode cX7_landCanoe 32 = .ok (.iload_n 3, 1) := by decide +kernel
theorem dX7_landCanoe_33 : decode cX7_landCanoe 33 = .ok (.iaload, 1) := by decide +kernel
theorem dX7_landCanoe_34 : decode cX7_landCanoe 34 = .ok (.iadd, 1) := by decide +kernel
theorem dX7_landCanoe_35 : decode cX7_landCanoe 35 = .ok (.iastore, 1) := by decide +kernel
theorem dX7_landCanoe_36 : decode cX7_landCanoe 36 = .ok (.aload_n 1, 1) := by decide +kernel
theorem dX7_landCanoe_37 : decode cX7_landCanoe 37 = .ok (.getfield 148, 3) := by decide +kernel
theorem dX7_landCanoe_40 : decode cX7_landCanoe 40 = .ok (.iload_n 3, 1) := by decide +kernel
theorem dX7_landCanoe_41 : decode cX7_landCanoe 41 = .ok (.iconst 0, 1) := by decide +kernel
theorem dX7_landCanoe_42 : decode cX7_landCanoe 42 = .ok (.iastore, 1) := by decide +kernel
theorem dX7_landCanoe_43 : decode cX7_landCanoe 43 = .ok (.iinc 3 1, 3) := by decide +kernel
theorem dX7_landCanoe_46 : decode cX7_landCanoe 46 = .ok (.goto (-31), 3) := by decide +kernel
theorem dX7_landCanoe_49 : decode cX7_landCanoe 49 = .ok (.return_, 1) := by decide +kernel
set_option maxRecDepth 20000 in
set_option maxRecDepth 100000 in
theorem ggX7_landLetters_X7_letterAt : GoodIn wsX7_landLetters wsX7_letterAt := goodIn_r _ [9, 10, 45, 46, 47, 48, 49, 50, 51, 52, 53, 54, 55, 56, 57, 58] rfl (by decide +kernel)
set_option maxRecDepth 20000 in
theorem gX7_landLetters_X7_letterAt : GoodIn wsX7_landLetters (wsV RX7 168 RX7 yX7_letterAt wsX7_letterAt) := goodIn_app (goodIn_of _ (by decide +kernel)) ggX7_landLetters_X7_letterAt
set_option maxRecDepth 20000 in
set_option maxRecDepth 100000 in
theorem ggX7_landLetters_X1_readAt : GoodIn wsX7_landLetters wsX1_readAt := goodIn_r _ [16, 17, 18, 19, 20, 8, 21, 59, 60, 61, 62, 63, 64, 77, 78, 79, 80] rfl (by decide +kernel)
set_option maxRecDepth 20000 in
theorem gX7_landLetters_X1_readAt_u207X1 : GoodIn wsX7_landLetters (va_wsU RX7 207 RX1 "FurPosts$Letter" ⟨"FurPosts$Letter", "readAt", "(LFurPosts$Post;)V"⟩ yX1_readAt wsX1_readAt) := goodIn_app (goodIn_of _ (by decide +kernel)) ggX7_landLetters_X1_readAt
set_option maxRecDepth 20000 in
set_option maxRecDepth 100000 in
theorem ggX7_landLetters_X3_readAt : GoodIn wsX7_landLetters wsX3_readAt := goodIn_r _ [25, 26, 27, 28, 29, 8, 30, 65, 66, 67, 68, 69, 70, 77, 78, 79, 80] rfl (by decide +kernel)
set_option maxRecDepth 20000 in
theorem gX7_landLetters_X3_readAt_u207X3 : GoodIn wsX7_landLetters (va_wsU RX7 207 RX3 "FurPosts$Letter" ⟨"FurPosts$Letter", "readAt", "(LFurPosts$Post;)V"⟩ yX3_readAt wsX3_readAt) := goodIn_app (goodIn_of _ (by decide +kernel)) ggX7_landLetters_X3_readAt
set_option maxRecDepth 20000 in
set_option maxRecDepth 100000 in
theorem ggX7_landLetters_X5_readAt : GoodIn wsX7_landLetters wsX5_readAt := goodIn_r _ [34, 35, 36, 37, 38, 39, 40, 41, 42, 43, 44, 59, 60, 61, 62, 63, 64, 65, 66, 67, 68, 69, 70, 71, 72, 73, 74, 75, 76, 77, 78, 79, 80] rfl (by decide +kernel)
set_option maxRecDepth 20000 in
theorem gX7_landLetters_X5_readAt_u207X5 : GoodIn wsX7_landLetters (va_wsU RX7 207 RX5 "FurPosts$Letter" ⟨"FurPosts$Letter", "readAt", "(LFurPosts$Post;)V"⟩ yX5_readAt wsX5_readAt) := goodIn_app (goodIn_of _ (by decide +kernel)) ggX7_landLetters_X5_readAt
theorem dX7_landLetters_0 : decode cX7_landLetters 0 = .ok (.iconst 0, 1) := by decide +kernel
theorem dX7_landLetters_1 : decode cX7_landLetters 1 = .ok (.istore 4, 2) := by decide +kernel
theorem dX7_landLetters_3 : decode cX7_landLetters 3 = .ok (.iload 4, 2) := by decide +kernel
theorem dX7_landLetters_5 : decode cX7_landLetters 5 = .ok (.aload_n 0, 1) := by decide +kernel
theorem dX7_landLetters_6 : decode cX7_landLetters 6 = .ok (.getfield 165, 3) := by decide +kernel
theorem dX7_landLetters_9 : decode cX7_landLetters 9 = .ok (.if_icmp .ge 61, 3) := by decide +kernel
theorem dX7_landLetters_12 : decode cX7_landLetters 12 = .ok (.aload_n 0, 1) := by decide +kernel
theorem dX7_landLetters_13 : decode cX7_landLetters 13 = .ok (.iload 4, 2) := by decide +kernel
theorem dX7_landLetters_15 : decode cX7_landLetters 15 = .ok (.invokevirtual 168, 3) := by decide +kernel
theorem dX7_landLetters_18 : decode cX7_landLetters 18 = .ok (.astore 5, 2) := by decide +kernel
theorem dX7_landLetters_20 : decode cX7_landLetters 20 = .ok (.aload 5, 2) := by decide +kernel
theorem dX7_landLetters_22 : decode cX7_landLetters 22 = .ok (.ifnull 42, 3) := by decide +kernel
theorem dX7_landLetters_25 : decode cX7_landLetters 25 = .ok (.aload 5, 2) := by decide +kernel
theorem dX7_landLetters_27 : decode cX7_landLetters 27 = .ok (.getfield 185, 3) := by decide +kernel
theorem dX7_landLetters_30 : decode cX7_landLetters 30 = .ok (.iload_n 1, 1) := by decide +kernel
theorem dX7_landLetters_31 : decode cX7_landLetters 31 = .ok (.if_icmp .ne 33, 3) := by decide +kernel
theorem dX7_landLetters_34 : decode cX7_landLetters 34 = .ok (.aload 5, 2) := by decide +kernel
theorem dX7_landLetters_36 : decode cX7_landLetters 36 = .ok (.iconst (-1), 1) := by decide +kernel
theorem dX7_landLetters_37 : decode cX7_landLetters 37 = .ok (.putfield 185, 3) := by decide +kernel
theorem dX7_landLetters_40 : decode cX7_landLetters 40 = .ok (.aload 5, 2) := by decide +kernel
theorem dX7_landLetters_42 : decode cX7_landLetters 42 = .ok (.getfield 178, 3) := by decide +kernel
theorem dX7_landLetters_45 : decode cX7_landLetters 45 = .ok (.iload_n 2, 1) := by decide +kernel
theorem dX7_landLetters_46 : decode cX7_landLetters 46 = .ok (.if_icmp .ne 12, 3) := by decide +kernel
theorem dX7_landLetters_49 : decode cX7_landLetters 49 = .ok (.aload 5, 2) := by decide +kernel
theorem dX7_landLetters_51 : decode cX7_landLetters 51 = .ok (.aload_n 3, 1) := by decide +kernel
theorem dX7_landLetters_52 : decode cX7_landLetters 52 = .ok (.invokevirtual 207, 3) := by decide +kernel
theorem dX7_landLetters_55 : decode cX7_landLetters 55 = .ok (.goto 9, 3) := by decide +kernel
theorem dX7_landLetters_58 : decode cX7_landLetters 58 = .ok (.aload 5, 2) := by decide +kernel
theorem dX7_landLetters_60 : decode cX7_landLetters 60 = .ok (.iload_n 2, 1) := by decide +kernel
theorem dX7_landLetters_61 : decode cX7_landLetters 61 = .ok (.putfield 172, 3) := by decide +kernel
theorem dX7_landLetters_64 : decode cX7_landLetters 64 = .ok (.iinc 4 1, 3) := by decide +kernel
theorem dX7_landLetters_67 : decode cX7_landLetters 67 = .ok (.goto (-64), 3) := by decide +kernel
theorem dX7_landLetters_70 : decode cX7_landLetters 70 = .ok (.return_, 1) := by decide +kernel
set_option maxRecDepth 20000 in
set_option maxRecDepth 100000 in
theorem ggX7_sell_X7_postAt : GoodIn wsX7_sell wsX7_postAt := goodIn_r _ [10, 11, 28, 29, 30, 31, 32, 33, 34, 35, 36, 37, 38, 39, 40, 41] rfl (by decide +kernel)
set_option maxRecDepth 20000 in
theorem gX7_sell_X7_postAt : GoodIn wsX7_sell (wsV RX7 84 RX7 yX7_postAt wsX7_postAt) := goodIn_app (goodIn_of _ (by decide +kernel)) ggX7_sell_X7_postAt
set_option maxRecDepth 20000 in
set_option maxRecDepth 100000 in
theorem ggX7_sell_X7_isTrade : GoodIn wsX7_sell wsX7_isTrade := goodIn_r _ [14, 15, 16, 9, 17, 18, 19, 20, 21, 22, 23] rfl (by decide +kernel)
set_option maxRecDepth 20000 in
theorem gX7_sell_X7_isTrade : GoodIn wsX7_sell (va_wsS RX7 211 yX7_isTrade wsX7_isTrade) := goodIn_app (goodIn_of _ (by decide +kernel)) ggX7_sell_X7_isTrade
theorem dX7_sell_0 : decode cX7_sell 0 = .ok (.aload_n 0, 1) := by decide +kernel
theorem dX7_sell_1 : decode cX7_sell 1 = .ok (.iload_n 1, 1) := by decide +kernel
theorem dX7_sell_2 : decode cX7_sell 2 = .ok (.invokevirtual 84, 3) := by decide +kernel
theorem dX7_sell_5 : decode cX7_sell 5 = .ok (.astore 5, 2) := by decide +kernel
theorem dX7_sell_7 : decode cX7_sell 7 = .ok (.aload 5, 2) := by decide +kernel
theorem dX7_sell_9 : decode cX7_sell 9 = .ok (.ifnull 25, 3) := by decide +kernel
theorem dX7_sell_12 : decode cX7_sell 12 = .ok (.iload_n 2, 1) := by decide +kernel
theorem dX7_sell_13 : decode cX7_sell 13 = .ok (.iload_n 3, 1) := by decide +kernel
theorem dX7_sell_14 : decode cX7_sell 14 = .ok (.iload 4, 2) := by decide +kernel
theorem dX7_sell_16 : decode cX7_sell 16 = .ok (.invokestatic 211, 3) := by decide +kernel
theorem dX7_sell_19 : decode cX7_sell 19 = .ok (.ifCond .eq 15, 3) := by decide +kernel
theorem dX7_sell_22 : decode cX7_sell 22 = .ok (.aload 5, 2) := by decide +kernel
theorem dX7_sell_24 : decode cX7_sell 24 = .ok (.getfield 92, 3) := by decide +kernel
theorem dX7_sell_27 : decode cX7_sell 27 = .ok (.iload_n 3, 1) := by decide +kernel
theorem dX7_sell_28 : decode cX7_sell 28 = .ok (.iaload, 1) := by decide +kernel
theorem dX7_sell_29 : decode cX7_sell 29 = .ok (.iload 4, 2) := by decide +kernel
theorem dX7_sell_31 : decode cX7_sell 31 = .ok (.if_icmp .ge 5, 3) := by decide +kernel
theorem dX7_sell_34 : decode cX7_sell 34 = .ok (.iconst (-1), 1) := by decide +kernel
theorem dX7_sell_35 : decode cX7_sell 35 = .ok (.ireturn, 1) := by decide +kernel
theorem dX7_sell_36 : decode cX7_sell 36 = .ok (.aload 5, 2) := by decide +kernel
theorem dX7_sell_38 : decode cX7_sell 38 = .ok (.getfield 214, 3) := by decide +kernel
theorem dX7_sell_41 : decode cX7_sell 41 = .ok (.iload_n 2, 1) := by decide +kernel
theorem dX7_sell_42 : decode cX7_sell 42 = .ok (.iaload, 1) := by decide +kernel
theorem dX7_sell_43 : decode cX7_sell 43 = .ok (.aload 5, 2) := by decide +kernel
theorem dX7_sell_45 : decode cX7_sell 45 = .ok (.getfield 217, 3) := by decide +kernel
theorem dX7_sell_48 : decode cX7_sell 48 = .ok (.iload_n 3, 1) := by decide +kernel
theorem dX7_sell_49 : decode cX7_sell 49 = .ok (.iaload, 1) := by decide +kernel
theorem dX7_sell_50 : decode cX7_sell 50 = .ok (.iload 4, 2) := by decide +kernel
theorem dX7_sell_52 : decode cX7_sell 52 = .ok (.imul, 1) := by decide +kernel
theorem dX7_sell_53 : decode cX7_sell 53 = .ok (.iadd, 1) := by decide +kernel
theorem dX7_sell_54 : decode cX7_sell 54 = .ok (.istore 6, 2) := by decide +kernel
theorem dX7_sell_56 : decode cX7_sell 56 = .ok (.iload 6, 2) := by decide +kernel
theorem dX7_sell_58 : decode cX7_sell 58 = .ok (.ldc 95, 2) := by decide +kernel
theorem dX7_sell_60 : decode cX7_sell 60 = .ok (.if_icmp .le 5, 3) := by decide +kernel
theorem dX7_sell_63 : decode cX7_sell 63 = .ok (.iconst (-1), 1) := by decide +kernel
theorem dX7_sell_64 : decode cX7_sell 64 = .ok (.ireturn, 1) := by decide +kernel
theorem dX7_sell_65 : decode cX7_sell 65 = .ok (.aload 5, 2) := by decide +kernel
theorem dX7_sell_67 : decode cX7_sell 67 = .ok (.getfield 92, 3) := by decide +kernel
theorem dX7_sell_70 : decode cX7_sell 70 = .ok (.iload_n 3, 1) := by decide +kernel
theorem dX7_sell_71 : decode cX7_sell 71 = .ok (.dup2, 1) := by decide +kernel
theorem dX7_sell_72 : decode cX7_sell 72 = .ok (.iaload, 1) := by decide +kernel
theorem dX7_sell_73 : decode cX7_sell 73 = .ok (.iload 4, 2) := by decide +kernel
theorem dX7_sell_75 : decode cX7_sell 75 = .ok (.isub, 1) := by decide +kernel
theorem dX7_sell_76 : decode cX7_sell 76 = .ok (.iastore, 1) := by decide +kernel
theorem dX7_sell_77 : decode cX7_sell 77 = .ok (.aload 5, 2) := by decide +kernel
theorem dX7_sell_79 : decode cX7_sell 79 = .ok (.getfield 214, 3) := by decide +kernel
theorem dX7_sell_82 : decode cX7_sell 82 = .ok (.iload_n 2, 1) := by decide +kernel
theorem dX7_sell_83 : decode cX7_sell 83 = .ok (.iload 6, 2) := by decide +kernel
theorem dX7_sell_85 : decode cX7_sell 85 = .ok (.iastore, 1) := by decide +kernel
theorem dX7_sell_86 : decode cX7_sell 86 = .ok (.aload_n 0, 1) := by decide +kernel
theorem dX7_sell_87 : decode cX7_sell 87 = .ok (.getfield 41, 3) := by decide +kernel
theorem dX7_sell_90 : decode cX7_sell 90 = .ok (.iload_n 3, 1) := by decide +kernel
theorem dX7_sell_91 : decode cX7_sell 91 = .ok (.aaload, 1) := by decide +kernel
theorem dX7_sell_92 : decode cX7_sell 92 = .ok (.iconst 1, 1) := by decide +kernel
theorem dX7_sell_93 : decode cX7_sell 93 = .ok (.dup2, 1) := by decide +kernel
theorem dX7_sell_94 : decode cX7_sell 94 = .ok (.iaload, 1) := by decide +kernel
theorem dX7_sell_95 : decode cX7_sell 95 = .ok (.iload 4, 2) := by decide +kernel
theorem dX7_sell_97 : decode cX7_sell 97 = .ok (.iadd, 1) := by decide +kernel
theorem dX7_sell_98 : decode cX7_sell 98 = .ok (.iastore, 1) := by decide +kernel
theorem dX7_sell_99 : decode cX7_sell 99 = .ok (.iload 6, 2) := by decide +kernel
theorem dX7_sell_101 : decode cX7_sell 101 = .ok (.ireturn, 1) := by decide +kernel
set_option maxRecDepth 20000 in
set_option maxRecDepth 100000 in
theorem ggX7_buy_X7_postAt : GoodIn wsX7_buy wsX7_postAt := goodIn_r _ [11, 12, 29, 30, 31, 32, 33, 34, 35, 36, 37, 38, 39, 40, 41, 42] rfl (by decide +kernel)
set_option maxRecDepth 20000 in
theorem gX7_buy_X7_postAt : GoodIn wsX7_buy (wsV RX7 84 RX7 yX7_postAt wsX7_postAt) := goodIn_app (goodIn_of _ (by decide +kernel)) ggX7_buy_X7_postAt
set_option maxRecDepth 20000 in
set_option maxRecDepth 100000 in
theorem ggX7_buy_X7_isTrade : GoodIn wsX7_buy wsX7_isTrade := goodIn_r _ [15, 16, 17, 10, 18, 19, 20, 21, 22, 23, 24] rfl (by decide +kernel)
set_option maxRecDepth 20000 in
theorem gX7_buy_X7_isTrade : GoodIn wsX7_buy (va_wsS RX7 211 yX7_isTrade wsX7_isTrade) := goodIn_app (goodIn_of _ (by decide +kernel)) ggX7_buy_X7_isTrade
theorem dX7_buy_0 : decode cX7_buy 0 = .ok (.aload_n 0, 1) := by decide +kernel
theorem dX7_buy_1 : decode cX7_buy 1 = .ok (.iload_n 1, 1) := by decide +kernel
theorem dX7_buy_2 : decode cX7_buy 2 = .ok (.invokevirtual 84, 3) := by decide +kernel
theorem dX7_buy_5 : decode cX7_buy 5 = .ok (.astore 5, 2) := by decide +kernel
theorem dX7_buy_7 : decode cX7_buy 7 = .ok (.aload 5, 2) := by decide +kernel
theorem dX7_buy_9 : decode cX7_buy 9 = .ok (.ifnull 28, 3) := by decide +kernel
theorem dX7_buy_12 : decode cX7_buy 12 = .ok (.iload_n 2, 1) := by decide +kernel
theorem dX7_buy_13 : decode cX7_buy 13 = .ok (.iload_n 3, 1) := by decide +kernel
theorem dX7_buy_14 : decode cX7_buy 14 = .ok (.iload 4, 2) := by decide +kernel
theorem dX7_buy_16 : decode cX7_buy 16 = .ok (.invokestatic 211, 3) := by decide +kernel
theorem dX7_buy_19 : decode cX7_buy 19 = .ok (.ifCond .eq 18, 3) := by decide +kernel
theorem dX7_buy_22 : decode cX7_buy 22 = .ok (.aload 5, 2) := by decide +kernel
theorem dX7_buy_24 : decode cX7_buy 24 = .ok (.getfield 92, 3) := by decide +kernel
theorem dX7_buy_27 : decode cX7_buy 27 = .ok (.iload_n 3, 1) := by decide +kernel
theorem dX7_buy_28 : decode cX7_buy 28 = .ok (.iaload, 1) := by decide +kernel
theorem dX7_buy_29 : decode cX7_buy 29 = .ok (.iload 4, 2) := by decide +kernel
theorem dX7_buy_31 : decode cX7_buy 31 = .ok (.iadd, 1) := by decide +kernel
theorem dX7_buy_32 : decode cX7_buy 32 = .ok (.ldc 95, 2) := by decide +kernel
theorem dX7_buy_34 : decode cX7_buy 34 = .ok (.if_icmp .le 5, 3) := by decide +kernel
theorem dX7_buy_37 : decode cX7_buy 37 = .ok (.iconst (-1), 1) := by decide +kernel
theorem dX7_buy_38 : decode cX7_buy 38 = .ok (.ireturn, 1) := by decide +kernel
theorem dX7_buy_39 : decode cX7_buy 39 = .ok (.aload 5, 2) := by decide +kernel
theorem dX7_buy_41 : decode cX7_buy 41 = .ok (.getfield 214, 3) := by decide +kernel
theorem dX7_buy_44 : decode cX7_buy 44 = .ok (.iload_n 2, 1) := by decide +kernel
theorem dX7_buy_45 : decode cX7_buy 45 = .ok (.iaload, 1) := by decide +kernel
theorem dX7_buy_46 : decode cX7_buy 46 = .ok (.aload 5, 2) := by decide +kernel
theorem dX7_buy_48 : decode cX7_buy 48 = .ok (.getfield 217, 3) := by decide +kernel
theorem dX7_buy_51 : decode cX7_buy 51 = .ok (.iload_n 3, 1) := by decide +kernel
theorem dX7_buy_52 : decode cX7_buy 52 = .ok (.iaload, 1) := by decide +kernel
theorem dX7_buy_53 : decode cX7_buy 53 = .ok (.iload 4, 2) := by decide +kernel
theorem dX7_buy_55 : decode cX7_buy 55 = .ok (.imul, 1) := by decide +kernel
theorem dX7_buy_56 : decode cX7_buy 56 = .ok (.isub, 1) := by decide +kernel
theorem dX7_buy_57 : decode cX7_buy 57 = .ok (.istore 6, 2) := by decide +kernel
theorem dX7_buy_59 : decode cX7_buy 59 = .ok (.iload 6, 2) := by decide +kernel
theorem dX7_buy_61 : decode cX7_buy 61 = .ok (.ldc 220, 2) := by decide +kernel
theorem dX7_buy_63 : decode cX7_buy 63 = .ok (.if_icmp .ge 5, 3) := by decide +kernel
theorem dX7_buy_66 : decode cX7_buy 66 = .ok (.iconst (-1), 1) := by decide +kernel
theorem dX7_buy_67 : decode cX7_buy 67 = .ok (.ireturn, 1) := by decide +kernel
theorem dX7_buy_68 : decode cX7_buy 68 = .ok (.aload 5, 2) := by decide +kernel
theorem dX7_buy_70 : decode cX7_buy 70 = .ok (.getfield 92, 3) := by decide +kernel
theorem dX7_buy_73 : decode cX7_buy 73 = .ok (.iload_n 3, 1) := by decide +kernel
theorem dX7_buy_74 : decode cX7_buy 74 = .ok (.dup2, 1) := by decide +kernel
theorem dX7_buy_75 : decode cX7_buy 75 = .ok (.iaload, 1) := by decide +kernel
theorem dX7_buy_76 : decode cX7_buy 76 = .ok (.iload 4, 2) := by decide +kernel
theorem dX7_buy_78 : decode cX7_buy 78 = .ok (.iadd, 1) := by decide +kernel
theorem dX7_buy_79 : decode cX7_buy 79 = .ok (.iastore, 1) := by decide +kernel
theorem dX7_buy_80 : decode cX7_buy 80 = .ok (.aload 5, 2) := by decide +kernel
theorem dX7_buy_82 : decode cX7_buy 82 = .ok (.getfield 214, 3) := by decide +kernel
theorem dX7_buy_85 : decode cX7_buy 85 = .ok (.iload_n 2, 1) := by decide +kernel
theorem dX7_buy_86 : decode cX7_buy 86 = .ok (.iload 6, 2) := by decide +kernel
theorem dX7_buy_88 : decode cX7_buy 88 = .ok (.iastore, 1) := by decide +kernel
theorem dX7_buy_89 : decode cX7_buy 89 = .ok (.aload_n 0, 1) := by decide +kernel
theorem dX7_buy_90 : decode cX7_buy 90 = .ok (.getfield 41, 3) := by decide +kernel
theorem dX7_buy_93 : decode cX7_buy 93 = .ok (.iload_n 3, 1) := by decide +kernel
theorem dX7_buy_94 : decode cX7_buy 94 = .ok (.aaload, 1) := by decide +kernel
theorem dX7_buy_95 : decode cX7_buy 95 = .ok (.iconst 2, 1) := by decide +kernel
theorem dX7_buy_96 : decode cX7_buy 96 = .ok (.dup2, 1) := by decide +kernel
theorem dX7_buy_97 : decode cX7_buy 97 = .ok (.iaload, 1) := by decide +kernel
theorem dX7_buy_98 : decode cX7_buy 98 = .ok (.iload 4, 2) := by decide +kernel
theorem dX7_buy_100 : decode cX7_buy 100 = .ok (.iadd, 1) := by decide +kernel
theorem dX7_buy_101 : decode cX7_buy 101 = .ok (.iastore, 1) := by decide +kernel
theorem dX7_buy_102 : decode cX7_buy 102 = .ok (.iload 6, 2) := by decide +kernel
theorem dX7_buy_104 : decode cX7_buy 104 = .ok (.ireturn, 1) := by decide +kernel
set_option maxRecDepth 20000 in
set_option maxRecDepth 100000 in
theorem ggX7_give_X7_postAt : GoodIn wsX7_give wsX7_postAt := goodIn_r _ [7, 8, 25, 26, 27, 28, 29, 30, 31, 32, 33, 34, 35, 36, 37, 38] rfl (by decide +kernel)
set_option maxRecDepth 20000 in
theorem gX7_give_X7_postAt : GoodIn wsX7_give (wsV RX7 84 RX7 yX7_postAt wsX7_postAt) := goodIn_app (goodIn_of _ (by decide +kernel)) ggX7_give_X7_postAt
set_option maxRecDepth 20000 in
set_option maxRecDepth 100000 in
theorem ggX7_give_X7_isTrade : GoodIn wsX7_give wsX7_isTrade := goodIn_r _ [11, 12, 13, 6, 14, 15, 16, 17, 18, 19, 20] rfl (by decide +kernel)
set_option maxRecDepth 20000 in
theorem gX7_give_X7_isTrade : GoodIn wsX7_give (va_wsS RX7 211 yX7_isTrade wsX7_isTrade) := goodIn_app (goodIn_of _ (by decide +kernel)) ggX7_give_X7_isTrade
theorem dX7_give_0 : decode cX7_give 0 = .ok (.aload_n 0, 1) := by decide +kernel
theorem dX7_give_1 : decode cX7_give 1 = .ok (.iload_n 1, 1) := by decide +kernel
theorem dX7_give_2 : decode cX7_give 2 = .ok (.invokevirtual 84, 3) := by decide +kernel
theorem dX7_give_5 : decode cX7_give 5 = .ok (.astore 5, 2) := by decide +kernel
theorem dX7_give_7 : decode cX7_give 7 = .ok (.aload 5, 2) := by decide +kernel
theorem dX7_give_9 : decode cX7_give 9 = .ok (.ifnull 25, 3) := by decide +kernel
theorem dX7_give_12 : decode cX7_give 12 = .ok (.iload_n 2, 1) := by decide +kernel
theorem dX7_give_13 : decode cX7_give 13 = .ok (.iload_n 3, 1) := by decide +kernel
theorem dX7_give_14 : decode cX7_give 14 = .ok (.iload 4, 2) := by decide +kernel
theorem dX7_give_16 : decode cX7_give 16 = .ok (.invokestatic 211, 3) := by decide +kernel
theorem dX7_give_19 : decode cX7_give 19 = .ok (.ifCond .eq 15, 3) := by decide +kernel
theorem dX7_give_22 : decode cX7_give 22 = .ok (.aload 5, 2) := by decide +kernel
theorem dX7_give_24 : decode cX7_give 24 = .ok (.getfield 92, 3) := by decide +kernel
theorem dX7_give_27 : decode cX7_give 27 = .ok (.iload_n 3, 1) := by decide +kernel
theorem dX7_give_28 : decode cX7_give 28 = .ok (.iaload, 1) := by decide +kernel
theorem dX7_give_29 : decode cX7_give 29 = .ok (.iload 4, 2) := by decide +kernel
theorem dX7_give_31 : decode cX7_give 31 = .ok (.if_icmp .ge 5, 3) := by decide +kernel
theorem dX7_give_34 : decode cX7_give 34 = .ok (.iconst (-1), 1) := by decide +kernel
theorem dX7_give_35 : decode cX7_give 35 = .ok (.ireturn, 1) := by decide +kernel
theorem dX7_give_36 : decode cX7_give 36 = .ok (.aload 5, 2) := by decide +kernel
theorem dX7_give_38 : decode cX7_give 38 = .ok (.getfield 92, 3) := by decide +kernel
theorem dX7_give_41 : decode cX7_give 41 = .ok (.iload_n 3, 1) := by decide +kernel
theorem dX7_give_42 : decode cX7_give 42 = .ok (.dup2, 1) := by decide +kernel
theorem dX7_give_43 : decode cX7_give 43 = .ok (.iaload, 1) := by decide +kernel
theorem dX7_give_44 : decode cX7_give 44 = .ok (.iload 4, 2) := by decide +kernel
theorem dX7_give_46 : decode cX7_give 46 = .ok (.isub, 1) := by decide +kernel
theorem dX7_give_47 : decode cX7_give 47 = .ok (.iastore, 1) := by decide +kernel
theorem dX7_give_48 : decode cX7_give 48 = .ok (.aload_n 0, 1) := by decide +kernel
theorem dX7_give_49 : decode cX7_give 49 = .ok (.getfield 41, 3) := by decide +kernel
theorem dX7_give_52 : decode cX7_give 52 = .ok (.iload_n 3, 1) := by decide +kernel
theorem dX7_give_53 : decode cX7_give 53 = .ok (.aaload, 1) := by decide +kernel
theorem dX7_give_54 : decode cX7_give 54 = .ok (.iconst 3, 1) := by decide +kernel
theorem dX7_give_55 : decode cX7_give 55 = .ok (.dup2, 1) := by decide +kernel
theorem dX7_give_56 : decode cX7_give 56 = .ok (.iaload, 1) := by decide +kernel
theorem dX7_give_57 : decode cX7_give 57 = .ok (.iload 4, 2) := by decide +kernel
theorem dX7_give_59 : decode cX7_give 59 = .ok (.iadd, 1) := by decide +kernel
theorem dX7_give_60 : decode cX7_give 60 = .ok (.iastore, 1) := by decide +kernel
theorem dX7_give_61 : decode cX7_give 61 = .ok (.aload 5, 2) := by decide +kernel
theorem dX7_give_63 : decode cX7_give 63 = .ok (.getfield 92, 3) := by decide +kernel
theorem dX7_give_66 : decode cX7_give 66 = .ok (.iload_n 3, 1) := by decide +kernel
theorem dX7_give_67 : decode cX7_give 67 = .ok (.iaload, 1) := by decide +kernel
theorem dX7_give_68 : decode cX7_give 68 = .ok (.ireturn, 1) := by decide +kernel
set_option maxRecDepth 20000 in
set_option maxRecDepth 100000 in
theorem ggX7_owes_X7_postAt : GoodIn wsX7_owes wsX7_postAt := goodIn_r _ [6, 7, 15, 16, 17, 18, 19, 20, 21, 22, 23, 24, 25, 26, 27, 28] rfl (by decide +kernel)
set_option maxRecDepth 20000 in
theorem gX7_owes_X7_postAt : GoodIn wsX7_owes (wsV RX7 84 RX7 yX7_postAt wsX7_postAt) := goodIn_app (goodIn_of _ (by decide +kernel)) ggX7_owes_X7_postAt
set_option maxRecDepth 20000 in
set_option maxRecDepth 100000 in
theorem ggX7_owes_X7_isHunter : GoodIn wsX7_owes wsX7_isHunter := goodIn_r _ [10] rfl (by decide +kernel)
set_option maxRecDepth 20000 in
theorem gX7_owes_X7_isHunter : GoodIn wsX7_owes (va_wsS RX7 221 yX7_isHunter wsX7_isHunter) := goodIn_app (goodIn_of _ (by decide +kernel)) ggX7_owes_X7_isHunter
theorem dX7_owes_0 : decode cX7_owes 0 = .ok (.aload_n 0, 1) := by decide +kernel
theorem dX7_owes_1 : decode cX7_owes 1 = .ok (.iload_n 1, 1) := by decide +kernel
theorem dX7_owes_2 : decode cX7_owes 2 = .ok (.invokevirtual 84, 3) := by decide +kernel
theorem dX7_owes_5 : decode cX7_owes 5 = .ok (.astore_n 3, 1) := by decide +kernel
theorem dX7_owes_6 : decode cX7_owes 6 = .ok (.aload_n 3, 1) := by decide +kernel
theorem dX7_owes_7 : decode cX7_owes 7 = .ok (.ifnull 10, 3) := by decide +kernel
theorem dX7_owes_10 : decode cX7_owes 10 = .ok (.iload_n 2, 1) := by decide +kernel
theorem dX7_owes_11 : decode cX7_owes 11 = .ok (.invokestatic 221, 3) := by decide +kernel
theorem dX7_owes_14 : decode cX7_owes 14 = .ok (.ifCond .ne 7, 3) := by decide +kernel
theorem dX7_owes_17 : decode cX7_owes 17 = .ok (.iconst 0, 1) := by decide +kernel
theorem dX7_owes_18 : decode cX7_owes 18 = .ok (.goto 9, 3) := by decide +kernel
theorem dX7_owes_21 : decode cX7_owes 21 = .ok (.aload_n 3, 1) := by decide +kernel
theorem dX7_owes_22 : decode cX7_owes 22 = .ok (.getfield 214, 3) := by decide +kernel
theorem dX7_owes_25 : decode cX7_owes 25 = .ok (.iload_n 2, 1) := by decide +kernel
theorem dX7_owes_26 : decode cX7_owes 26 = .ok (.iaload, 1) := by decide +kernel
theorem dX7_owes_27 : decode cX7_owes 27 = .ok (.ireturn, 1) := by decide +kernel
set_option maxRecDepth 20000 in
set_option maxRecDepth 100000 in
theorem ggX7_price_X7_postAt : GoodIn wsX7_price wsX7_postAt := goodIn_r _ [6, 7, 15, 16, 17, 18, 19, 20, 21, 22, 23, 24, 25, 26, 27, 28] rfl (by decide +kernel)
set_option maxRecDepth 20000 in
theorem gX7_price_X7_postAt : GoodIn wsX7_price (wsV RX7 84 RX7 yX7_postAt wsX7_postAt) := goodIn_app (goodIn_of _ (by decide +kernel)) ggX7_price_X7_postAt
set_option maxRecDepth 20000 in
set_option maxRecDepth 100000 in
theorem ggX7_price_X7_isWare : GoodIn wsX7_price wsX7_isWare := goodIn_r _ [10] rfl (by decide +kernel)
set_option maxRecDepth 20000 in
theorem gX7_price_X7_isWare : GoodIn wsX7_price (va_wsS RX7 88 yX7_isWare wsX7_isWare) := goodIn_app (goodIn_of _ (by decide +kernel)) ggX7_price_X7_isWare
theorem dX7_price_0 : decode cX7_price 0 = .ok (.aload_n 0, 1) := by decide +kernel
theorem dX7_price_1 : decode cX7_price 1 = .ok (.iload_n 1, 1) := by decide +kernel
theorem dX7_price_2 : decode cX7_price 2 = .ok (.invokevirtual 84, 3) := by decide +kernel
theorem dX7_price_5 : decode cX7_price 5 = .ok (.astore_n 3, 1) := by decide +kernel
theorem dX7_price_6 : decode cX7_price 6 = .ok (.aload_n 3, 1) := by decide +kernel
theorem dX7_price_7 : decode cX7_price 7 = .ok (.ifnull 10, 3) := by decide +kernel
theorem dX7_price_10 : decode cX7_price 10 = .ok (.iload_n 2, 1) := by decide +kernel
theorem dX7_price_11 : decode cX7_price 11 = .ok (.invokestatic 88, 3) := by decide +kernel
theorem dX7_price_14 : decode cX7_price 14 = .ok (.ifCond .ne 7, 3) := by decide +kernel
theorem dX7_price_17 : decode cX7_price 17 = .ok (.iconst (-1), 1) := by decide +kernel
theorem dX7_price_18 : decode cX7_price 18 = .ok (.goto 9, 3) := by decide +kernel
theorem dX7_price_21 : decode cX7_price 21 = .ok (.aload_n 3, 1) := by decide +kernel
theorem dX7_price_22 : decode cX7_price 22 = .ok (.getfield 217, 3) := by decide +kernel
theorem dX7_price_25 : decode cX7_price 25 = .ok (.iload_n 2, 1) := by decide +kernel
theorem dX7_price_26 : decode cX7_price 26 = .ok (.iaload, 1) := by decide +kernel
theorem dX7_price_27 : decode cX7_price 27 = .ok (.ireturn, 1) := by decide +kernel
set_option maxRecDepth 20000 in
set_option maxRecDepth 100000 in
theorem ggX7_isTrade_X7_isHunter : GoodIn wsX7_isTrade wsX7_isHunter := goodIn_r _ [4] rfl (by decide +kernel)
set_option maxRecDepth 20000 in
theorem gX7_isTrade_X7_isHunter : GoodIn wsX7_isTrade (va_wsS RX7 221 yX7_isHunter wsX7_isHunter) := goodIn_app (goodIn_of _ (by decide +kernel)) ggX7_isTrade_X7_isHunter
set_option maxRecDepth 20000 in
set_option maxRecDepth 100000 in
theorem ggX7_isTrade_X7_isWare : GoodIn wsX7_isTrade wsX7_isWare := goodIn_r _ [7] rfl (by decide +kernel)
set_option maxRecDepth 20000 in
theorem gX7_isTrade_X7_isWare : GoodIn wsX7_isTrade (va_wsS RX7 88 yX7_isWare wsX7_isWare) := goodIn_app (goodIn_of _ (by decide +kernel)) ggX7_isTrade_X7_isWare
set_option maxRecDepth 20000 in
set_option maxRecDepth 100000 in
theorem ggX7_isTrade_X7_isWithin : GoodIn wsX7_isTrade wsX7_isWithin := goodIn_r _ [10] rfl (by decide +kernel)
set_option maxRecDepth 20000 in
theorem gX7_isTrade_X7_isWithin : GoodIn wsX7_isTrade (va_wsS RX7 66 yX7_isWithin wsX7_isWithin) := goodIn_app (goodIn_of _ (by decide +kernel)) ggX7_isTrade_X7_isWithin
theorem dX7_isTrade_0 : decode cX7_isTrade 0 = .ok (.iload_n 0, 1) := by decide +kernel
theorem dX7_isTrade_1 : decode cX7_isTrade 1 = .ok (.invokestatic 221, 3) := by decide +kernel
theorem dX7_isTrade_4 : decode cX7_isTrade 4 = .ok (.ifCond .eq 25, 3) := by decide +kernel
theorem dX7_isTrade_7 : decode cX7_isTrade 7 = .ok (.iload_n 1, 1) := by decide +kernel
theorem dX7_isTrade_8 : decode cX7_isTrade 8 = .ok (.invokestatic 88, 3) := by decide +kernel
theorem dX7_isTrade_11 : decode cX7_isTrade 11 = .ok (.ifCond .eq 18, 3) := by decide +kernel
theorem dX7_isTrade_14 : decode cX7_isTrade 14 = .ok (.iload_n 2, 1) := by decide +kernel
theorem dX7_isTrade_15 : decode cX7_isTrade 15 = .ok (.iconst 1, 1) := by decide +kernel
theorem dX7_isTrade_16 : decode cX7_isTrade 16 = .ok (.sipush 1000, 3) := by decide +kernel
theorem dX7_isTrade_19 : decode cX7_isTrade 19 = .ok (.invokestatic 66, 3) := by decide +kernel
theorem dX7_isTrade_22 : decode cX7_isTrade 22 = .ok (.ifCond .eq 7, 3) := by decide +kernel
theorem dX7_isTrade_25 : decode cX7_isTrade 25 = .ok (.iconst 1, 1) := by decide +kernel
theorem dX7_isTrade_26 : decode cX7_isTrade 26 = .ok (.goto 4, 3) := by decide +kernel
theorem dX7_isTrade_29 : decode cX7_isTrade 29 = .ok (.iconst 0, 1) := by decide +kernel
theorem dX7_isTrade_30 : decode cX7_isTrade 30 = .ok (.ireturn, 1) := by decide +kernel
set_option maxRecDepth 20000 in
set_option maxRecDepth 100000 in
theorem ggX7_order_X7_canWrite : GoodIn wsX7_order wsX7_canWrite := goodIn_r _ [8, 9, 10, 11, 12, 7, 13, 14, 15, 16, 17, 18, 52, 53, 54, 55, 56, 57, 58, 59, 60, 61, 62, 63, 64, 65] rfl (by decide +kernel)
set_option maxRecDepth 20000 in
theorem gX7_order_X7_canWrite : GoodIn wsX7_order (wsV RX7 224 RX7 yX7_canWrite wsX7_canWrite) := goodIn_app (goodIn_of _ (by decide +kernel)) ggX7_order_X7_canWrite
set_option maxRecDepth 20000 in
set_option maxRecDepth 100000 in
theorem ggX7_order_X7_isWare : GoodIn wsX7_order wsX7_isWare := goodIn_r _ [21] rfl (by decide +kernel)
set_option maxRecDepth 20000 in
theorem gX7_order_X7_isWare : GoodIn wsX7_order (va_wsS RX7 88 yX7_isWare wsX7_isWare) := goodIn_app (goodIn_of _ (by decide +kernel)) ggX7_order_X7_isWare
set_option maxRecDepth 20000 in
set_option maxRecDepth 100000 in
theorem ggX7_order_X7_isWithin : GoodIn wsX7_order wsX7_isWithin := goodIn_r _ [24] rfl (by decide +kernel)
set_option maxRecDepth 20000 in
theorem gX7_order_X7_isWithin : GoodIn wsX7_order (va_wsS RX7 66 yX7_isWithin wsX7_isWithin) := goodIn_app (goodIn_of _ (by decide +kernel)) ggX7_order_X7_isWithin
set_option maxRecDepth 20000 in
set_option maxRecDepth 100000 in
theorem ggX7_order_X3_init : GoodIn wsX7_order wsX3_init := goodIn_r _ [27, 28, 29, 30, 31, 32, 33, 34, 35, 36, 37, 38, 39, 40, 46, 47, 48, 49, 50, 51, 66, 67, 68, 69, 70, 71, 72, 73, 74, 75, 76, 77] rfl (by decide +kernel)
set_option maxRecDepth 20000 in
theorem gX7_order_X3_init : GoodIn wsX7_order (wsX3_init) := ggX7_order_X3_init
set_option maxRecDepth 20000 in
set_option maxRecDepth 100000 in
theorem ggX7_order_X7_putInBag : GoodIn wsX7_order wsX7_putInBag := goodIn_r _ [44, 9, 45, 52, 53, 54, 55, 56, 57, 58, 59, 60, 61, 62, 63, 64, 65] rfl (by decide +kernel)
set_option maxRecDepth 20000 in
theorem gX7_order_X7_putInBag : GoodIn wsX7_order (wsV RX7 232 RX7 yX7_putInBag wsX7_putInBag) := goodIn_app (goodIn_of _ (by decide +kernel)) ggX7_order_X7_putInBag
theorem dX7_order_0 : decode cX7_order 0 = .ok (.aload_n 0, 1) := by decide +kernel
theorem dX7_order_1 : decode cX7_order 1 = .ok (.iload_n 1, 1) := by decide +kernel
theorem dX7_order_2 : decode cX7_order 2 = .ok (.iload_n 2, 1) := by decide +kernel
theorem dX7_order_3 : decode cX7_order 3 = .ok (.invokevirtual 224, 3) := by decide +kernel
theorem dX7_order_6 : decode cX7_order 6 = .ok (.ifCond .eq 21, 3) := by decide +kernel
theorem dX7_order_9 : decode cX7_order 9 = .ok (.iload_n 3, 1) := by decide +kernel
theorem dX7_order_10 : decode cX7_order 10 = .ok (.invokestatic 88, 3) := by decide +kernel
theorem dX7_order_13 : decode cX7_order 13 = .ok (.ifCond .eq 14, 3) := by decide +kernel
theorem dX7_order_16 : decode cX7_order 16 = .ok (.iload 4, 2) := by decide +kernel
theorem dX7_order_18 : decode cX7_order 18 = .ok (.iconst 1, 1) := by decide +kernel
theorem dX7_order_19 : decode cX7_order 19 = .ok (.bipush 100, 2) := by decide +kernel
theorem dX7_order_21 : decode cX7_order 21 = .ok (.invokestatic 66, 3) := by decide +kernel
theorem dX7_order_24 : decode cX7_order 24 = .ok (.ifCond .ne 5, 3) := by decide +kernel
theorem dX7_order_27 : decode cX7_order 27 = .ok (.iconst (-1), 1) := by decide +kernel
theorem dX7_order_28 : decode cX7_order 28 = .ok (.ireturn, 1) := by decide +kernel
theorem dX7_order_29 : decode cX7_order 29 = .ok (.aload_n 0, 1) := by decide +kernel
theorem dX7_order_30 : decode cX7_order 30 = .ok (.new 227, 3) := by decide +kernel
theorem dX7_order_33 : decode cX7_order 33 = .ok (.dup, 1) := by decide +kernel
theorem dX7_order_34 : decode cX7_order 34 = .ok (.iload_n 1, 1) := by decide +kernel
theorem dX7_order_35 : decode cX7_order 35 = .ok (.iload_n 2, 1) := by decide +kernel
theorem dX7_order_36 : decode cX7_order 36 = .ok (.iload_n 3, 1) := by decide +kernel
theorem dX7_order_37 : decode cX7_order 37 = .ok (.iload 4, 2) := by decide +kernel
theorem dX7_order_39 : decode cX7_order 39 = .ok (.invokespecial 229, 3) := by decide +kernel
theorem dX7_order_42 : decode cX7_order 42 = .ok (.invokevirtual 232, 3) := by decide +kernel
theorem dX7_order_45 : decode cX7_order 45 = .ok (.ireturn, 1) := by decide +kernel
set_option maxRecDepth 20000 in
set_option maxRecDepth 100000 in
theorem ggX7_debt_X7_postAt : GoodIn wsX7_debt wsX7_postAt := goodIn_r _ [9, 10, 54, 55, 56, 57, 58, 59, 60, 61, 62, 63, 64, 65, 66, 67] rfl (by decide +kernel)
set_option maxRecDepth 20000 in
theorem gX7_debt_X7_postAt : GoodIn wsX7_debt (wsV RX7 84 RX7 yX7_postAt wsX7_postAt) := goodIn_app (goodIn_of _ (by decide +kernel)) ggX7_debt_X7_postAt
set_option maxRecDepth 20000 in
set_option maxRecDepth 100000 in
theorem ggX7_debt_X7_canWrite : GoodIn wsX7_debt wsX7_canWrite := goodIn_r _ [14, 15, 16, 17, 18, 8, 19, 5, 6, 7, 9, 10, 54, 55, 56, 57, 58, 59, 60, 61, 62, 63, 64, 65, 66, 67] rfl (by decide +kernel)
set_option maxRecDepth 20000 in
theorem gX7_debt_X7_canWrite : GoodIn wsX7_debt (wsV RX7 224 RX7 yX7_canWrite wsX7_canWrite) := goodIn_app (goodIn_of _ (by decide +kernel)) ggX7_debt_X7_canWrite
set_option maxRecDepth 20000 in
set_option maxRecDepth 100000 in
theorem ggX7_debt_X7_isHunter : GoodIn wsX7_debt wsX7_isHunter := goodIn_r _ [22] rfl (by decide +kernel)
set_option maxRecDepth 20000 in
theorem gX7_debt_X7_isHunter : GoodIn wsX7_debt (va_wsS RX7 221 yX7_isHunter wsX7_isHunter) := goodIn_app (goodIn_of _ (by decide +kernel)) ggX7_debt_X7_isHunter
set_option maxRecDepth 20000 in
set_option maxRecDepth 100000 in
theorem ggX7_debt_X1_init : GoodIn wsX7_debt wsX1_init := goodIn_r _ [25, 26, 27, 28, 29, 30, 31, 32, 33, 34, 35, 36, 37, 38, 48, 49, 50, 51, 52, 53, 68, 69, 70, 71, 72, 73, 74, 75, 76, 77, 78, 79] rfl (by decide +kernel)
set_option maxRecDepth 20000 in
theorem gX7_debt_X1_init : GoodIn wsX7_debt (wsX1_init) := ggX7_debt_X1_init
set_option maxRecDepth 20000 in
set_option maxRecDepth 100000 in
theorem ggX7_debt_X7_putInBag : GoodIn wsX7_debt wsX7_putInBag := goodIn_r _ [42, 15, 43, 54, 55, 56, 57, 58, 59, 60, 61, 62, 63, 64, 65, 66, 67] rfl (by decide +kernel)
set_option maxRecDepth 20000 in
theorem gX7_debt_X7_putInBag : GoodIn wsX7_debt (wsV RX7 232 RX7 yX7_putInBag wsX7_putInBag) := goodIn_app (goodIn_of _ (by decide +kernel)) ggX7_debt_X7_putInBag
theorem dX7_debt_0 : decode cX7_debt 0 = .ok (.aload_n 0, 1) := by decide +kernel
theorem dX7_debt_1 : decode cX7_debt 1 = .ok (.iload_n 1, 1) := by decide +kernel
theorem dX7_debt_2 : decode cX7_debt 2 = .ok (.invokevirtual 84, 3) := by decide +kernel
theorem dX7_debt_5 : decode cX7_debt 5 = .ok (.astore 4, 2) := by decide +kernel
theorem dX7_debt_7 : decode cX7_debt 7 = .ok (.aload 4, 2) := by decide +kernel
theorem dX7_debt_9 : decode cX7_debt 9 = .ok (.ifnull 29, 3) := by decide +kernel
theorem dX7_debt_12 : decode cX7_debt 12 = .ok (.aload_n 0, 1) := by decide +kernel
theorem dX7_debt_13 : decode cX7_debt 13 = .ok (.iload_n 1, 1) := by decide +kernel
theorem dX7_debt_14 : decode cX7_debt 14 = .ok (.iload_n 2, 1) := by decide +kernel
theorem dX7_debt_15 : decode cX7_debt 15 = .ok (.invokevirtual 224, 3) := by decide +kernel
theorem dX7_debt_18 : decode cX7_debt 18 = .ok (.ifCond .eq 20, 3) := by decide +kernel
theorem dX7_debt_21 : decode cX7_debt 21 = .ok (.iload_n 3, 1) := by decide +kernel
theorem dX7_debt_22 : decode cX7_debt 22 = .ok (.invokestatic 221, 3) := by decide +kernel
theorem dX7_debt_25 : decode cX7_debt 25 = .ok (.ifCond .eq 13, 3) := by decide +kernel
theorem dX7_debt_28 : decode cX7_debt 28 = .ok (.aload 4, 2) := by decide +kernel
theorem dX7_debt_30 : decode cX7_debt 30 = .ok (.getfield 214, 3) := by decide +kernel
theorem dX7_debt_33 : decode cX7_debt 33 = .ok (.iload_n 3, 1) := by decide +kernel
theorem dX7_debt_34 : decode cX7_debt 34 = .ok (.iaload, 1) := by decide +kernel
theorem dX7_debt_35 : decode cX7_debt 35 = .ok (.ifCond .ne 5, 3) := by decide +kernel
theorem dX7_debt_38 : decode cX7_debt 38 = .ok (.iconst (-1), 1) := by decide +kernel
theorem dX7_debt_39 : decode cX7_debt 39 = .ok (.ireturn, 1) := by decide +kernel
theorem dX7_debt_40 : decode cX7_debt 40 = .ok (.aload 4, 2) := by decide +kernel
theorem dX7_debt_42 : decode cX7_debt 42 = .ok (.getfield 214, 3) := by decide +kernel
theorem dX7_debt_45 : decode cX7_debt 45 = .ok (.iload_n 3, 1) := by decide +kernel
theorem dX7_debt_46 : decode cX7_debt 46 = .ok (.iaload, 1) := by decide +kernel
theorem dX7_debt_47 : decode cX7_debt 47 = .ok (.istore 5, 2) := by decide +kernel
theorem dX7_debt_49 : decode cX7_debt 49 = .ok (.aload 4, 2) := by decide +kernel
theorem dX7_debt_51 : decode cX7_debt 51 = .ok (.getfield 214, 3) := by decide +kernel
theorem dX7_debt_54 : decode cX7_debt 54 = .ok (.iload_n 3, 1) := by decide +kernel
theorem dX7_debt_55 : decode cX7_debt 55 = .ok (.iconst 0, 1) := by decide +kernel
theorem dX7_debt_56 : decode cX7_debt 56 = .ok (.iastore, 1) := by decide +kernel
theorem dX7_debt_57 : decode cX7_debt 57 = .ok (.aload_n 0, 1) := by decide +kernel
theorem dX7_debt_58 : decode cX7_debt 58 = .ok (.new 188, 3) := by decide +kernel
theorem dX7_debt_61 : decode cX7_debt 61 = .ok (.dup, 1) := by decide +kernel
theorem dX7_debt_62 : decode cX7_debt 62 = .ok (.iload_n 1, 1) := by decide +kernel
theorem dX7_debt_63 : decode cX7_debt 63 = .ok (.iload_n 2, 1) := by decide +kernel
theorem dX7_debt_64 : decode cX7_debt 64 = .ok (.iload_n 3, 1) := by decide +kernel
theorem dX7_debt_65 : decode cX7_debt 65 = .ok (.iload 5, 2) := by decide +kernel
theorem dX7_debt_67 : decode cX7_debt 67 = .ok (.invokespecial 236, 3) := by decide +kernel
theorem dX7_debt_70 : decode cX7_debt 70 = .ok (.invokevirtual 232, 3) := by decide +kernel
theorem dX7_debt_73 : decode cX7_debt 73 = .ok (.pop, 1) := by decide +kernel
theorem dX7_debt_74 : decode cX7_debt 74 = .ok (.iload 5, 2) := by decide +kernel
theorem dX7_debt_76 : decode cX7_debt 76 = .ok (.ireturn, 1) := by decide +kernel
set_option maxRecDepth 20000 in
set_option maxRecDepth 100000 in
theorem ggX7_report_X7_postAt : GoodIn wsX7_report wsX7_postAt := goodIn_r _ [16, 17, 54, 55, 56, 57, 58, 59, 60, 61, 62, 63, 64, 65, 66, 67] rfl (by decide +kernel)
set_option maxRecDepth 20000 in
theorem gX7_report_X7_postAt : GoodIn wsX7_report (wsV RX7 84 RX7 yX7_postAt wsX7_postAt) := goodIn_app (goodIn_of _ (by decide +kernel)) ggX7_report_X7_postAt
set_option maxRecDepth 20000 in
set_option maxRecDepth 100000 in
theorem ggX7_report_X7_canWrite : GoodIn wsX7_report wsX7_canWrite := goodIn_r _ [21, 22, 23, 24, 25, 15, 26, 12, 13, 14, 16, 17, 54, 55, 56, 57, 58, 59, 60, 61, 62, 63, 64, 65, 66, 67] rfl (by decide +kernel)
set_option maxRecDepth 20000 in
theorem gX7_report_X7_canWrite : GoodIn wsX7_report (wsV RX7 224 RX7 yX7_canWrite wsX7_canWrite) := goodIn_app (goodIn_of _ (by decide +kernel)) ggX7_report_X7_canWrite
set_option maxRecDepth 20000 in
set_option maxRecDepth 100000 in
theorem ggX7_report_X5_init : GoodIn wsX7_report wsX5_init := goodIn_r _ [29, 30, 31, 32, 33, 34, 35, 36, 37, 38, 39, 40, 41, 42, 48, 49, 50, 51, 52, 53, 72, 73, 74, 75, 76, 77, 78, 79, 80, 81, 82, 83] rfl (by decide +kernel)
set_option maxRecDepth 20000 in
theorem gX7_report_X5_init : GoodIn wsX7_report (wsX5_init) := ggX7_report_X5_init
set_option maxRecDepth 20000 in
set_option maxRecDepth 100000 in
theorem ggX7_report_X7_putInBag : GoodIn wsX7_report wsX7_putInBag := goodIn_r _ [46, 22, 47, 54, 55, 56, 57, 58, 59, 60, 61, 62, 63, 64, 65, 66, 67] rfl (by decide +kernel)
set_option maxRecDepth 20000 in
theorem gX7_report_X7_putInBag : GoodIn wsX7_report (wsV RX7 232 RX7 yX7_putInBag wsX7_putInBag) := goodIn_app (goodIn_of _ (by decide +kernel)) ggX7_report_X7_putInBag
theorem dX7_report_0 : decode cX7_report 0 = .ok (.aload_n 0, 1) := by decide +kernel
theorem dX7_report_1 : decode cX7_report 1 = .ok (.iload_n 1, 1) := by decide +kernel
theorem dX7_report_2 : decode cX7_report 2 = .ok (.invokevirtual 84, 3) := by decide +kernel
theorem dX7_report_5 : decode cX7_report 5 = .ok (.astore_n 3, 1) := by decide +kernel
theorem dX7_report_6 : decode cX7_report 6 = .ok (.aload_n 3, 1) := by decide +kernel
theorem dX7_report_7 : decode cX7_report 7 = .ok (.ifnull 12, 3) := by decide +kernel
theorem dX7_report_10 : decode cX7_report 10 = .ok (.aload_n 0, 1) := by decide +kernel
theorem dX7_report_11 : decode cX7_report 11 = .ok (.iload_n 1, 1) := by decide +kernel
theorem dX7_report_12 : decode cX7_report 12 = .ok (.iload_n 2, 1) := by decide +kernel
theorem dX7_report_13 : decode cX7_report 13 = .ok (.invokevirtual 224, 3) := by decide +kernel
theorem dX7_report_16 : decode cX7_report 16 = .ok (.ifCond .ne 5, 3) := by decide +kernel
theorem dX7_report_19 : decode cX7_report 19 = .ok (.iconst (-1), 1) := by decide +kernel
theorem dX7_report_20 : decode cX7_report 20 = .ok (.ireturn, 1) := by decide +kernel
theorem dX7_report_21 : decode cX7_report 21 = .ok (.aload_n 0, 1) := by decide +kernel
theorem dX7_report_22 : decode cX7_report 22 = .ok (.new 237, 3) := by decide +kernel
theorem dX7_report_25 : decode cX7_report 25 = .ok (.dup, 1) := by decide +kernel
theorem dX7_report_26 : decode cX7_report 26 = .ok (.iload_n 1, 1) := by decide +kernel
theorem dX7_report_27 : decode cX7_report 27 = .ok (.iload_n 2, 1) := by decide +kernel
theorem dX7_report_28 : decode cX7_report 28 = .ok (.aload_n 0, 1) := by decide +kernel
theorem dX7_report_29 : decode cX7_report 29 = .ok (.getfield 103, 3) := by decide +kernel
theorem dX7_report_32 : decode cX7_report 32 = .ok (.aload_n 3, 1) := by decide +kernel
theorem dX7_report_33 : decode cX7_report 33 = .ok (.getfield 92, 3) := by decide +kernel
theorem dX7_report_36 : decode cX7_report 36 = .ok (.invokevirtual 123, 3) := by decide +kernel
theorem dX7_report_39 : decode cX7_report 39 = .ok (.checkcast 124, 3) := by decide +kernel
theorem dX7_report_42 : decode cX7_report 42 = .ok (.invokespecial 239, 3) := by decide +kernel
theorem dX7_report_45 : decode cX7_report 45 = .ok (.invokevirtual 232, 3) := by decide +kernel
theorem dX7_report_48 : decode cX7_report 48 = .ok (.ireturn, 1) := by decide +kernel
set_option maxRecDepth 20000 in
set_option maxRecDepth 100000 in
theorem ggX7_known_X7_postAt : GoodIn wsX7_known wsX7_postAt := goodIn_r _ [7, 8, 28, 29, 30, 31, 32, 33, 34, 35, 36, 37, 38, 39, 40, 41] rfl (by decide +kernel)
set_option maxRecDepth 20000 in
theorem gX7_known_X7_postAt : GoodIn wsX7_known (wsV RX7 84 RX7 yX7_postAt wsX7_postAt) := goodIn_app (goodIn_of _ (by decide +kernel)) ggX7_known_X7_postAt
set_option maxRecDepth 20000 in
set_option maxRecDepth 100000 in
theorem ggX7_known_X7_isWare : GoodIn wsX7_known wsX7_isWare := goodIn_r _ [11] rfl (by decide +kernel)
set_option maxRecDepth 20000 in
theorem gX7_known_X7_isWare : GoodIn wsX7_known (va_wsS RX7 88 yX7_isWare wsX7_isWare) := goodIn_app (goodIn_of _ (by decide +kernel)) ggX7_known_X7_isWare
set_option maxRecDepth 20000 in
set_option maxRecDepth 100000 in
theorem ggX7_known_X4_reportOf : GoodIn wsX7_known wsX4_reportOf := goodIn_r _ [16, 17, 18, 19, 20, 21] rfl (by decide +kernel)
set_option maxRecDepth 20000 in
theorem gX7_known_X4_reportOf : GoodIn wsX7_known (wsV RX7 242 RX4 yX4_reportOf wsX4_reportOf) := goodIn_app (goodIn_of _ (by decide +kernel)) ggX7_known_X4_reportOf
theorem dX7_known_0 : decode cX7_known 0 = .ok (.aload_n 0, 1) := by decide +kernel
theorem dX7_known_1 : decode cX7_known 1 = .ok (.iload_n 1, 1) := by decide +kernel
theorem dX7_known_2 : decode cX7_known 2 = .ok (.invokevirtual 84, 3) := by decide +kernel
theorem dX7_known_5 : decode cX7_known 5 = .ok (.astore 4, 2) := by decide +kernel
theorem dX7_known_7 : decode cX7_known 7 = .ok (.aload 4, 2) := by decide +kernel
theorem dX7_known_9 : decode cX7_known 9 = .ok (.ifnull 10, 3) := by decide +kernel
theorem dX7_known_12 : decode cX7_known 12 = .ok (.iload_n 3, 1) := by decide +kernel
theorem dX7_known_13 : decode cX7_known 13 = .ok (.invokestatic 88, 3) := by decide +kernel
theorem dX7_known_16 : decode cX7_known 16 = .ok (.ifCond .ne 5, 3) := by decide +kernel
theorem dX7_known_19 : decode cX7_known 19 = .ok (.iconst (-1), 1) := by decide +kernel
theorem dX7_known_20 : decode cX7_known 20 = .ok (.ireturn, 1) := by decide +kernel
theorem dX7_known_21 : decode cX7_known 21 = .ok (.iload_n 1, 1) := by decide +kernel
theorem dX7_known_22 : decode cX7_known 22 = .ok (.iload_n 2, 1) := by decide +kernel
theorem dX7_known_23 : decode cX7_known 23 = .ok (.if_icmp .ne 11, 3) := by decide +kernel
theorem dX7_known_26 : decode cX7_known 26 = .ok (.aload 4, 2) := by decide +kernel
theorem dX7_known_28 : decode cX7_known 28 = .ok (.getfield 92, 3) := by decide +kernel
theorem dX7_known_31 : decode cX7_known 31 = .ok (.iload_n 3, 1) := by decide +kernel
theorem dX7_known_32 : decode cX7_known 32 = .ok (.iaload, 1) := by decide +kernel
theorem dX7_known_33 : decode cX7_known 33 = .ok (.ireturn, 1) := by decide +kernel
theorem dX7_known_34 : decode cX7_known 34 = .ok (.aload 4, 2) := by decide +kernel
theorem dX7_known_36 : decode cX7_known 36 = .ok (.iload_n 2, 1) := by decide +kernel
theorem dX7_known_37 : decode cX7_known 37 = .ok (.invokevirtual 242, 3) := by decide +kernel
theorem dX7_known_40 : decode cX7_known 40 = .ok (.astore 5, 2) := by decide +kernel
theorem dX7_known_42 : decode cX7_known 42 = .ok (.aload 5, 2) := by decide +kernel
theorem dX7_known_44 : decode cX7_known 44 = .ok (.ifnonnull 7, 3) := by decide +kernel
theorem dX7_known_47 : decode cX7_known 47 = .ok (.iconst (-1), 1) := by decide +kernel
theorem dX7_known_48 : decode cX7_known 48 = .ok (.goto 10, 3) := by decide +kernel
theorem dX7_known_51 : decode cX7_known 51 = .ok (.aload 5, 2) := by decide +kernel
theorem dX7_known_53 : decode cX7_known 53 = .ok (.getfield 246, 3) := by decide +kernel
theorem dX7_known_56 : decode cX7_known 56 = .ok (.iload_n 3, 1) := by decide +kernel
theorem dX7_known_57 : decode cX7_known 57 = .ok (.iaload, 1) := by decide +kernel
theorem dX7_known_58 : decode cX7_known 58 = .ok (.ireturn, 1) := by decide +kernel
set_option maxRecDepth 20000 in
set_option maxRecDepth 100000 in
theorem ggX7_knownDay_X7_postAt : GoodIn wsX7_knownDay wsX7_postAt := goodIn_r _ [7, 8, 15, 16, 17, 18, 19, 20, 21, 22, 23, 24, 25, 26, 27, 28] rfl (by decide +kernel)
set_option maxRecDepth 20000 in
theorem gX7_knownDay_X7_postAt : GoodIn wsX7_knownDay (wsV RX7 84 RX7 yX7_postAt wsX7_postAt) := goodIn_app (goodIn_of _ (by decide +kernel)) ggX7_knownDay_X7_postAt
set_option maxRecDepth 20000 in
set_option maxRecDepth 100000 in
theorem ggX7_knownDay_X4_reportOf : GoodIn wsX7_knownDay wsX4_reportOf := goodIn_r _ [13, 14, 35, 36, 37, 38] rfl (by decide +kernel)
set_option maxRecDepth 20000 in
theorem gX7_knownDay_X4_reportOf : GoodIn wsX7_knownDay (wsV RX7 242 RX4 yX4_reportOf wsX4_reportOf) := goodIn_app (goodIn_of _ (by decide +kernel)) ggX7_knownDay_X4_reportOf
theorem dX7_knownDay_0 : decode cX7_knownDay 0 = .ok (.aload_n 0, 1) := by decide +kernel
theorem dX7_knownDay_1 : decode cX7_knownDay 1 = .ok (.iload_n 1, 1) := by decide +kernel
theorem dX7_knownDay_2 : decode cX7_knownDay 2 = .ok (.invokevirtual 84, 3) := by decide +kernel
theorem dX7_knownDay_5 : decode cX7_knownDay 5 = .ok (.astore_n 3, 1) := by decide +kernel
theorem dX7_knownDay_6 : decode cX7_knownDay 6 = .ok (.aload_n 3, 1) := by decide +kernel
theorem dX7_knownDay_7 : decode cX7_knownDay 7 = .ok (.ifnonnull 5, 3) := by decide +kernel
theorem dX7_knownDay_10 : decode cX7_knownDay 10 = .ok (.iconst (-1), 1) := by decide +kernel
theorem dX7_knownDay_11 : decode cX7_knownDay 11 = .ok (.ireturn, 1) := by decide +kernel
theorem dX7_knownDay_12 : decode cX7_knownDay 12 = .ok (.iload_n 1, 1) := by decide +kernel
theorem dX7_knownDay_13 : decode cX7_knownDay 13 = .ok (.iload_n 2, 1) := by decide +kernel
theorem dX7_knownDay_14 : decode cX7_knownDay 14 = .ok (.if_icmp .ne 8, 3) := by decide +kernel
theorem dX7_knownDay_17 : decode cX7_knownDay 17 = .ok (.aload_n 0, 1) := by decide +kernel
theorem dX7_knownDay_18 : decode cX7_knownDay 18 = .ok (.getfield 103, 3) := by decide +kernel
theorem dX7_knownDay_21 : decode cX7_knownDay 21 = .ok (.ireturn, 1) := by decide +kernel
theorem dX7_knownDay_22 : decode cX7_knownDay 22 = .ok (.aload_n 3, 1) := by decide +kernel
theorem dX7_knownDay_23 : decode cX7_knownDay 23 = .ok (.iload_n 2, 1) := by decide +kernel
theorem dX7_knownDay_24 : decode cX7_knownDay 24 = .ok (.invokevirtual 242, 3) := by decide +kernel
theorem dX7_knownDay_27 : decode cX7_knownDay 27 = .ok (.astore 4, 2) := by decide +kernel
theorem dX7_knownDay_29 : decode cX7_knownDay 29 = .ok (.aload 4, 2) := by decide +kernel
theorem dX7_knownDay_31 : decode cX7_knownDay 31 = .ok (.ifnonnull 7, 3) := by decide +kernel
theorem dX7_knownDay_34 : decode cX7_knownDay 34 = .ok (.iconst (-1), 1) := by decide +kernel
theorem dX7_knownDay_35 : decode cX7_knownDay 35 = .ok (.goto 8, 3) := by decide +kernel
theorem dX7_knownDay_38 : decode cX7_knownDay 38 = .ok (.aload 4, 2) := by decide +kernel
theorem dX7_knownDay_40 : decode cX7_knownDay 40 = .ok (.getfield 247, 3) := by decide +kernel
theorem dX7_knownDay_43 : decode cX7_knownDay 43 = .ok (.ireturn, 1) := by decide +kernel
set_option maxRecDepth 20000 in
set_option maxRecDepth 100000 in
theorem ggX7_canWrite_X7_areTwoPosts : GoodIn wsX7_canWrite wsX7_areTwoPosts := goodIn_r _ [6, 7, 8, 9, 5, 10, 11, 12, 13, 14, 15, 16, 17, 18, 19, 20, 21, 22, 23, 24, 25] rfl (by decide +kernel)
set_option maxRecDepth 20000 in
theorem gX7_canWrite_X7_areTwoPosts : GoodIn wsX7_canWrite (wsV RX7 59 RX7 yX7_areTwoPosts wsX7_areTwoPosts) := goodIn_app (goodIn_of _ (by decide +kernel)) ggX7_canWrite_X7_areTwoPosts
theorem dX7_canWrite_0 : decode cX7_canWrite 0 = .ok (.aload_n 0, 1) := by decide +kernel
theorem dX7_canWrite_1 : decode cX7_canWrite 1 = .ok (.iload_n 1, 1) := by decide +kernel
theorem dX7_canWrite_2 : decode cX7_canWrite 2 = .ok (.iload_n 2, 1) := by decide +kernel
theorem dX7_canWrite_3 : decode cX7_canWrite 3 = .ok (.invokevirtual 59, 3) := by decide +kernel
theorem dX7_canWrite_6 : decode cX7_canWrite 6 = .ok (.ifCond .eq 17, 3) := by decide +kernel
theorem dX7_canWrite_9 : decode cX7_canWrite 9 = .ok (.aload_n 0, 1) := by decide +kernel
theorem dX7_canWrite_10 : decode cX7_canWrite 10 = .ok (.getfield 165, 3) := by decide +kernel
theorem dX7_canWrite_13 : decode cX7_canWrite 13 = .ok (.sipush 300, 3) := by decide +kernel
theorem dX7_canWrite_16 : decode cX7_canWrite 16 = .ok (.if_icmp .ge 7, 3) := by decide +kernel
theorem dX7_canWrite_19 : decode cX7_canWrite 19 = .ok (.iconst 1, 1) := by decide +kernel
theorem dX7_canWrite_20 : decode cX7_canWrite 20 = .ok (.goto 4, 3) := by decide +kernel
theorem dX7_canWrite_23 : decode cX7_canWrite 23 = .ok (.iconst 0, 1) := by decide +kernel
theorem dX7_canWrite_24 : decode cX7_canWrite 24 = .ok (.ireturn, 1) := by decide +kernel
theorem dX7_putInBag_0 : decode cX7_putInBag 0 = .ok (.aload_n 0, 1) := by decide +kernel
theorem dX7_putInBag_1 : decode cX7_putInBag 1 = .ok (.getfield 165, 3) := by decide +kernel
theorem dX7_putInBag_4 : decode cX7_putInBag 4 = .ok (.sipush 300, 3) := by decide +kernel
theorem dX7_putInBag_7 : decode cX7_putInBag 7 = .ok (.if_icmp .lt 5, 3) := by decide +kernel
theorem dX7_putInBag_10 : decode cX7_putInBag 10 = .ok (.iconst (-1), 1) := by decide +kernel
theorem dX7_putInBag_11 : decode cX7_putInBag 11 = .ok (.ireturn, 1) := by decide +kernel
theorem dX7_putInBag_12 : decode cX7_putInBag 12 = .ok (.aload_n 0, 1) := by decide +kernel
theorem dX7_putInBag_13 : decode cX7_putInBag 13 = .ok (.getfield 29, 3) := by decide +kernel
theorem dX7_putInBag_16 : decode cX7_putInBag 16 = .ok (.aload_n 0, 1) := by decide +kernel
theorem dX7_putInBag_17 : decode cX7_putInBag 17 = .ok (.getfield 165, 3) := by decide +kernel
theorem dX7_putInBag_20 : decode cX7_putInBag 20 = .ok (.aload_n 1, 1) := by decide +kernel
theorem dX7_putInBag_21 : decode cX7_putInBag 21 = .ok (.aastore, 1) := by decide +kernel
theorem dX7_putInBag_22 : decode cX7_putInBag 22 = .ok (.aload_n 0, 1) := by decide +kernel
theorem dX7_putInBag_23 : decode cX7_putInBag 23 = .ok (.dup, 1) := by decide +kernel
theorem dX7_putInBag_24 : decode cX7_putInBag 24 = .ok (.getfield 165, 3) := by decide +kernel
theorem dX7_putInBag_27 : decode cX7_putInBag 27 = .ok (.iconst 1, 1) := by decide +kernel
theorem dX7_putInBag_28 : decode cX7_putInBag 28 = .ok (.iadd, 1) := by decide +kernel
theorem dX7_putInBag_29 : decode cX7_putInBag 29 = .ok (.putfield 165, 3) := by decide +kernel
theorem dX7_putInBag_32 : decode cX7_putInBag 32 = .ok (.aload_n 0, 1) := by decide +kernel
theorem dX7_putInBag_33 : decode cX7_putInBag 33 = .ok (.getfield 165, 3) := by decide +kernel
theorem dX7_putInBag_36 : decode cX7_putInBag 36 = .ok (.iconst 1, 1) := by decide +kernel
theorem dX7_putInBag_37 : decode cX7_putInBag 37 = .ok (.isub, 1) := by decide +kernel
theorem dX7_putInBag_38 : decode cX7_putInBag 38 = .ok (.ireturn, 1) := by decide +kernel
set_option maxRecDepth 20000 in
set_option maxRecDepth 100000 in
theorem ggX7_want_X7_isWare : GoodIn wsX7_want wsX7_isWare := goodIn_r _ [5] rfl (by decide +kernel)
set_option maxRecDepth 20000 in
theorem gX7_want_X7_isWare : GoodIn wsX7_want (va_wsS RX7 88 yX7_isWare wsX7_isWare) := goodIn_app (goodIn_of _ (by decide +kernel)) ggX7_want_X7_isWare
set_option maxRecDepth 20000 in
set_option maxRecDepth 100000 in
theorem ggX7_want_X7_isWithin : GoodIn wsX7_want wsX7_isWithin := goodIn_r _ [8] rfl (by decide +kernel)
set_option maxRecDepth 20000 in
theorem gX7_want_X7_isWithin : GoodIn wsX7_want (va_wsS RX7 66 yX7_isWithin wsX7_isWithin) := goodIn_app (goodIn_of _ (by decide +kernel)) ggX7_want_X7_isWithin
theorem dX7_want_0 : decode cX7_want 0 = .ok (.iload_n 1, 1) := by decide +kernel
theorem dX7_want_1 : decode cX7_want 1 = .ok (.invokestatic 88, 3) := by decide +kernel
theorem dX7_want_4 : decode cX7_want 4 = .ok (.ifCond .eq 24, 3) := by decide +kernel
theorem dX7_want_7 : decode cX7_want 7 = .ok (.iload_n 2, 1) := by decide +kernel
theorem dX7_want_8 : decode cX7_want 8 = .ok (.iconst 0, 1) := by decide +kernel
theorem dX7_want_9 : decode cX7_want 9 = .ok (.bipush 20, 2) := by decide +kernel
theorem dX7_want_11 : decode cX7_want 11 = .ok (.invokestatic 66, 3) := by decide +kernel
theorem dX7_want_14 : decode cX7_want 14 = .ok (.ifCond .eq 14, 3) := by decide +kernel
theorem dX7_want_17 : decode cX7_want 17 = .ok (.iload_n 3, 1) := by decide +kernel
theorem dX7_want_18 : decode cX7_want 18 = .ok (.iconst 0, 1) := by decide +kernel
theorem dX7_want_19 : decode cX7_want 19 = .ok (.sipush 1000, 3) := by decide +kernel
theorem dX7_want_22 : decode cX7_want 22 = .ok (.invokestatic 66, 3) := by decide +kernel
theorem dX7_want_25 : decode cX7_want 25 = .ok (.ifCond .ne 5, 3) := by decide +kernel
theorem dX7_want_28 : decode cX7_want 28 = .ok (.iconst 0, 1) := by decide +kernel
theorem dX7_want_29 : decode cX7_want 29 = .ok (.ireturn, 1) := by decide +kernel
theorem dX7_want_30 : decode cX7_want 30 = .ok (.aload_n 0, 1) := by decide +kernel
theorem dX7_want_31 : decode cX7_want 31 = .ok (.getfield 38, 3) := by decide +kernel
theorem dX7_want_34 : decode cX7_want 34 = .ok (.iload_n 1, 1) := by decide +kernel
theorem dX7_want_35 : decode cX7_want 35 = .ok (.aaload, 1) := by decide +kernel
theorem dX7_want_36 : decode cX7_want 36 = .ok (.iload_n 2, 1) := by decide +kernel
theorem dX7_want_37 : decode cX7_want 37 = .ok (.iload_n 3, 1) := by decide +kernel
theorem dX7_want_38 : decode cX7_want 38 = .ok (.iastore, 1) := by decide +kernel
theorem dX7_want_39 : decode cX7_want 39 = .ok (.iconst 1, 1) := by decide +kernel
theorem dX7_want_40 : decode cX7_want 40 = .ok (.ireturn, 1) := by decide +kernel
set_option maxRecDepth 20000 in
set_option maxRecDepth 100000 in
theorem ggX7_indent_X7_cost : GoodIn wsX7_indent wsX7_cost := goodIn_r _ [5, 6, 7, 8, 9, 10, 11, 12, 13, 14, 4, 15, 16, 17, 18, 19, 20, 21, 22, 23, 24, 25, 26, 27, 28, 29, 30, 31, 32, 33, 34, 35, 36, 37, 38, 39, 40, 41, 42, 43, 44] rfl (by decide +kernel)
set_option maxRecDepth 20000 in
theorem gX7_indent_X7_cost : GoodIn wsX7_indent (wsV RX7 250 RX7 yX7_cost wsX7_cost) := goodIn_app (goodIn_of _ (by decide +kernel)) ggX7_indent_X7_cost
theorem dX7_indent_0 : decode cX7_indent 0 = .ok (.iconst (-1), 1) := by decide +kernel
theorem dX7_indent_1 : decode cX7_indent 1 = .ok (.istore 5, 2) := by decide +kernel
theorem dX7_indent_3 : decode cX7_indent 3 = .ok (.iconst (-1), 1) := by decide +kernel
theorem dX7_indent_4 : decode cX7_indent 4 = .ok (.istore 6, 2) := by decide +kernel
theorem dX7_indent_6 : decode cX7_indent 6 = .ok (.iconst 0, 1) := by decide +kernel
theorem dX7_indent_7 : decode cX7_indent 7 = .ok (.istore 7, 2) := by decide +kernel
theorem dX7_indent_9 : decode cX7_indent 9 = .ok (.iload 7, 2) := by decide +kernel
theorem dX7_indent_11 : decode cX7_indent 11 = .ok (.bipush 20, 2) := by decide +kernel
theorem dX7_indent_13 : decode cX7_indent 13 = .ok (.if_icmp .gt 49, 3) := by decide +kernel
theorem dX7_indent_16 : decode cX7_indent 16 = .ok (.aload_n 0, 1) := by decide +kernel
theorem dX7_indent_17 : decode cX7_indent 17 = .ok (.iload_n 1, 1) := by decide +kernel
theorem dX7_indent_18 : decode cX7_indent 18 = .ok (.iload_n 2, 1) := by decide +kernel
theorem dX7_indent_19 : decode cX7_indent 19 = .ok (.iload_n 3, 1) := by decide +kernel
theorem dX7_indent_20 : decode cX7_indent 20 = .ok (.iload 4, 2) := by decide +kernel
theorem dX7_indent_22 : decode cX7_indent 22 = .ok (.iload 7, 2) := by decide +kernel
theorem dX7_indent_24 : decode cX7_indent 24 = .ok (.invokevirtual 250, 3) := by decide +kernel
theorem dX7_indent_27 : decode cX7_indent 27 = .ok (.istore 8, 2) := by decide +kernel
theorem dX7_indent_29 : decode cX7_indent 29 = .ok (.iload 8, 2) := by decide +kernel
theorem dX7_indent_31 : decode cX7_indent 31 = .ok (.iconst (-1), 1) := by decide +kernel
theorem dX7_indent_32 : decode cX7_indent 32 = .ok (.if_icmp .eq 24, 3) := by decide +kernel
theorem dX7_indent_35 : decode cX7_indent 35 = .ok (.iload 5, 2) := by decide +kernel
theorem dX7_indent_37 : decode cX7_indent 37 = .ok (.iconst (-1), 1) := by decide +kernel
theorem dX7_indent_38 : decode cX7_indent 38 = .ok (.if_icmp .eq 10, 3) := by decide +kernel
theorem dX7_indent_41 : decode cX7_indent 41 = .ok (.iload 8, 2) := by decide +kernel
theorem dX7_indent_43 : decode cX7_indent 43 = .ok (.iload 6, 2) := by decide +kernel
theorem dX7_indent_45 : decode cX7_indent 45 = .ok (.if_icmp .ge 11, 3) := by decide +kernel
theorem dX7_indent_48 : decode cX7_indent 48 = .ok (.iload 7, 2) := by decide +kernel
theorem dX7_indent_50 : decode cX7_indent 50 = .ok (.istore 5, 2) := by decide +kernel
theorem dX7_indent_52 : decode cX7_indent 52 = .ok (.iload 8, 2) := by decide +kernel
theorem dX7_indent_54 : decode cX7_indent 54 = .ok (.istore 6, 2) := by decide +kernel
theorem dX7_indent_56 : decode cX7_indent 56 = .ok (.iinc 7 1, 3) := by decide +kernel
theorem dX7_indent_59 : decode cX7_indent 59 = .ok (.goto (-50), 3) := by decide +kernel
theorem dX7_indent_62 : decode cX7_indent 62 = .ok (.iload 5, 2) := by decide +kernel
theorem dX7_indent_64 : decode cX7_indent 64 = .ok (.ireturn, 1) := by decide +kernel
set_option maxRecDepth 20000 in
set_option maxRecDepth 100000 in
theorem ggX7_cost_X7_postAt : GoodIn wsX7_cost wsX7_postAt := goodIn_r _ [11, 12, 27, 28, 29, 30, 31, 32, 33, 34, 35, 36, 37, 38, 39, 40] rfl (by decide +kernel)
set_option maxRecDepth 20000 in
theorem gX7_cost_X7_postAt : GoodIn wsX7_cost (wsV RX7 84 RX7 yX7_postAt wsX7_postAt) := goodIn_app (goodIn_of _ (by decide +kernel)) ggX7_cost_X7_postAt
set_option maxRecDepth 20000 in
set_option maxRecDepth 100000 in
theorem ggX7_cost_X7_isWare : GoodIn wsX7_cost wsX7_isWare := goodIn_r _ [15] rfl (by decide +kernel)
set_option maxRecDepth 20000 in
theorem gX7_cost_X7_isWare : GoodIn wsX7_cost (va_wsS RX7 88 yX7_isWare wsX7_isWare) := goodIn_app (goodIn_of _ (by decide +kernel)) ggX7_cost_X7_isWare
set_option maxRecDepth 20000 in
set_option maxRecDepth 100000 in
theorem ggX7_cost_X7_areWantsRight : GoodIn wsX7_cost wsX7_areWantsRight := goodIn_r _ [19, 6, 27, 28, 29, 30, 31, 32, 33, 34, 35, 36, 37, 38, 39, 40] rfl (by decide +kernel)
set_option maxRecDepth 20000 in
theorem gX7_cost_X7_areWantsRight : GoodIn wsX7_cost (wsV RX7 254 RX7 yX7_areWantsRight wsX7_areWantsRight) := goodIn_app (goodIn_of _ (by decide +kernel)) ggX7_cost_X7_areWantsRight
set_option maxRecDepth 20000 in
set_option maxRecDepth 100000 in
theorem ggX7_cost_X7_isWithin : GoodIn wsX7_cost wsX7_isWithin := goodIn_r _ [22] rfl (by decide +kernel)
set_option maxRecDepth 20000 in
theorem gX7_cost_X7_isWithin : GoodIn wsX7_cost (va_wsS RX7 66 yX7_isWithin wsX7_isWithin) := goodIn_app (goodIn_of _ (by decide +kernel)) ggX7_cost_X7_isWithin
theorem dX7_cost_0 : decode cX7_cost 0 = .ok (.aload_n 0, 1) := by decide +kernel
theorem dX7_cost_1 : decode cX7_cost 1 = .ok (.iload_n 1, 1) := by decide +kernel
theorem dX7_cost_2 : decode cX7_cost 2 = .ok (.invokevirtual 84, 3) := by decide +kernel
theorem dX7_cost_5 : decode cX7_cost 5 = .ok (.astore 6, 2) := by decide +kernel
theorem dX7_cost_7 : decode cX7_cost 7 = .ok (.aload 6, 2) := by decide +kernel
theorem dX7_cost_9 : decode cX7_cost 9 = .ok (.ifnull 50, 3) := by decide +kernel
theorem dX7_cost_12 : decode cX7_cost 12 = .ok (.iload_n 2, 1) := by decide +kernel
theorem dX7_cost_13 : decode cX7_cost 13 = .ok (.invokestatic 88, 3) := by decide +kernel
theorem dX7_cost_16 : decode cX7_cost 16 = .ok (.ifCond .eq 43, 3) := by decide +kernel
theorem dX7_cost_19 : decode cX7_cost 19 = .ok (.aload_n 0, 1) := by decide +kernel
theorem dX7_cost_20 : decode cX7_cost 20 = .ok (.iload_n 2, 1) := by decide +kernel
theorem dX7_cost_21 : decode cX7_cost 21 = .ok (.invokevirtual 254, 3) := by decide +kernel
theorem dX7_cost_24 : decode cX7_cost 24 = .ok (.ifCond .eq 35, 3) := by decide +kernel
theorem dX7_cost_27 : decode cX7_cost 27 = .ok (.iload 5, 2) := by decide +kernel
theorem dX7_cost_29 : decode cX7_cost 29 = .ok (.iconst 0, 1) := by decide +kernel
theorem dX7_cost_30 : decode cX7_cost 30 = .ok (.bipush 20, 2) := by decide +kernel
theorem dX7_cost_32 : decode cX7_cost 32 = .ok (.invokestatic 66, 3) := by decide +kernel
theorem dX7_cost_35 : decode cX7_cost 35 = .ok (.ifCond .eq 24, 3) := by decide +kernel
theorem dX7_cost_38 : decode cX7_cost 38 = .ok (.iload_n 3, 1) := by decide +kernel
theorem dX7_cost_39 : decode cX7_cost 39 = .ok (.iconst 0, 1) := by decide +kernel
theorem dX7_cost_40 : decode cX7_cost 40 = .ok (.bipush 100, 2) := by decide +kernel
theorem dX7_cost_42 : decode cX7_cost 42 = .ok (.invokestatic 66, 3) := by decide +kernel
theorem dX7_cost_45 : decode cX7_cost 45 = .ok (.ifCond .eq 14, 3) := by decide +kernel
theorem dX7_cost_48 : decode cX7_cost 48 = .ok (.iload 4, 2) := by decide +kernel
theorem dX7_cost_50 : decode cX7_cost 50 = .ok (.iconst 0, 1) := by decide +kernel
theorem dX7_cost_51 : decode cX7_cost 51 = .ok (.bipush 100, 2) := by decide +kernel
theorem dX7_cost_53 : decode cX7_cost 53 = .ok (.invokestatic 66, 3) := by decide +kernel
theorem dX7_cost_56 : decode cX7_cost 56 = .ok (.ifCond .ne 5, 3) := by decide +kernel
theorem dX7_cost_59 : decode cX7_cost 59 = .ok (.iconst (-1), 1) := by decide +kernel
theorem dX7_cost_60 : decode cX7_cost 60 = .ok (.ireturn, 1) := by decide +kernel
theorem dX7_cost_61 : decode cX7_cost 61 = .ok (.aload 6, 2) := by decide +kernel
theorem dX7_cost_63 : decode cX7_cost 63 = .ok (.getfield 92, 3) := by decide +kernel
theorem dX7_cost_66 : decode cX7_cost 66 = .ok (.iload_n 2, 1) := by decide +kernel
theorem dX7_cost_67 : decode cX7_cost 67 = .ok (.iaload, 1) := by decide +kernel
theorem dX7_cost_68 : decode cX7_cost 68 = .ok (.sipush 1000, 3) := by decide +kernel
theorem dX7_cost_71 : decode cX7_cost 71 = .ok (.invokestatic 78, 3) := by decide +kernel
theorem dX7_cost_74 : decode cX7_cost 74 = .ok (.iload 5, 2) := by decide +kernel
theorem dX7_cost_76 : decode cX7_cost 76 = .ok (.iadd, 1) := by decide +kernel
theorem dX7_cost_77 : decode cX7_cost 77 = .ok (.istore 7, 2) := by decide +kernel
theorem dX7_cost_79 : decode cX7_cost 79 = .ok (.iconst 0, 1) := by decide +kernel
theorem dX7_cost_80 : decode cX7_cost 80 = .ok (.istore 8, 2) := by decide +kernel
theorem dX7_cost_82 : decode cX7_cost 82 = .ok (.iconst 0, 1) := by decide +kernel
theorem dX7_cost_83 : decode cX7_cost 83 = .ok (.istore 9, 2) := by decide +kernel
theorem dX7_cost_85 : decode cX7_cost 85 = .ok (.iload 9, 2) := by decide +kernel
theorem dX7_cost_87 : decode cX7_cost 87 = .ok (.bipush 20, 2) := by decide +kernel
theorem dX7_cost_89 : decode cX7_cost 89 = .ok (.if_icmp .gt 53, 3) := by decide +kernel
theorem dX7_cost_92 : decode cX7_cost 92 = .ok (.iload 9, 2) := by decide +kernel
theorem dX7_cost_94 : decode cX7_cost 94 = .ok (.iload 7, 2) := by decide +kernel
theorem dX7_cost_96 : decode cX7_cost 96 = .ok (.if_icmp .le 13, 3) := by decide +kernel
theorem dX7_cost_99 : decode cX7_cost 99 = .ok (.iload_n 3, 1) := by decide +kernel
theorem dX7_cost_100 : decode cX7_cost 100 = .ok (.iload 9, 2) := by decide +kernel
theorem dX7_cost_102 : decode cX7_cost 102 = .ok (.iload 7, 2) := by decide +kernel
theorem dX7_cost_104 : decode cX7_cost 104 = .ok (.isub, 1) := by decide +kernel
theorem dX7_cost_105 : decode cX7_cost 105 = .ok (.imul, 1) := by decide +kernel
theorem dX7_cost_106 : decode cX7_cost 106 = .ok (.goto 11, 3) := by decide +kernel
theorem dX7_cost_109 : decode cX7_cost 109 = .ok (.iload 4, 2) := by decide +kernel
theorem dX7_cost_111 : decode cX7_cost 111 = .ok (.iload 7, 2) := by decide +kernel
theorem dX7_cost_113 : decode cX7_cost 113 = .ok (.iload 9, 2) := by decide +kernel
theorem dX7_cost_115 : decode cX7_cost 115 = .ok (.isub, 1) := by decide +kernel
theorem dX7_cost_116 : decode cX7_cost 116 = .ok (.imul, 1) := by decide +kernel
theorem dX7_cost_117 : decode cX7_cost 117 = .ok (.istore 10, 2) := by decide +kernel
theorem dX7_cost_119 : decode cX7_cost 119 = .ok (.iload 8, 2) := by decide +kernel
theorem dX7_cost_121 : decode cX7_cost 121 = .ok (.aload_n 0, 1) := by decide +kernel
theorem dX7_cost_122 : decode cX7_cost 122 = .ok (.getfield 38, 3) := by decide +kernel
theorem dX7_cost_125 : decode cX7_cost 125 = .ok (.iload_n 2, 1) := by decide +kernel
theorem dX7_cost_126 : decode cX7_cost 126 = .ok (.aaload, 1) := by decide +kernel
theorem dX7_cost_127 : decode cX7_cost 127 = .ok (.iload 9, 2) := by decide +kernel
theorem dX7_cost_129 : decode cX7_cost 129 = .ok (.iaload, 1) := by decide +kernel
theorem dX7_cost_130 : decode cX7_cost 130 = .ok (.iload 10, 2) := by decide +kernel
theorem dX7_cost_132 : decode cX7_cost 132 = .ok (.imul, 1) := by decide +kernel
theorem dX7_cost_133 : decode cX7_cost 133 = .ok (.iadd, 1) := by decide +kernel
theorem dX7_cost_134 : decode cX7_cost 134 = .ok (.istore 8, 2) := by decide +kernel
theorem dX7_cost_136 : decode cX7_cost 136 = .ok (.iinc 9 1, 3) := by decide +kernel
theorem dX7_cost_139 : decode cX7_cost 139 = .ok (.goto (-54), 3) := by decide +kernel
theorem dX7_cost_142 : decode cX7_cost 142 = .ok (.iload 8, 2) := by decide +kernel
theorem dX7_cost_144 : decode cX7_cost 144 = .ok (.ireturn, 1) := by decide +kernel
theorem dX7_areWantsRight_0 : decode cX7_areWantsRight 0 = .ok (.iconst 0, 1) := by decide +kernel
theorem dX7_areWantsRight_1 : decode cX7_areWantsRight 1 = .ok (.istore_n 2, 1) := by decide +kernel
theorem dX7_areWantsRight_2 : decode cX7_areWantsRight 2 = .ok (.iconst 0, 1) := by decide +kernel
theorem dX7_areWantsRight_3 : decode cX7_areWantsRight 3 = .ok (.istore_n 3, 1) := by decide +kernel
theorem dX7_areWantsRight_4 : decode cX7_areWantsRight 4 = .ok (.iload_n 3, 1) := by decide +kernel
theorem dX7_areWantsRight_5 : decode cX7_areWantsRight 5 = .ok (.bipush 20, 2) := by decide +kernel
theorem dX7_areWantsRight_7 : decode cX7_areWantsRight 7 = .ok (.if_icmp .gt 20, 3) := by decide +kernel
theorem dX7_areWantsRight_10 : decode cX7_areWantsRight 10 = .ok (.iload_n 2, 1) := by decide +kernel
theorem dX7_areWantsRight_11 : decode cX7_areWantsRight 11 = .ok (.aload_n 0, 1) := by decide +kernel
theorem dX7_areWantsRight_12 : decode cX7_areWantsRight 12 = .ok (.getfield 38, 3) := by decide +kernel
theorem dX7_areWantsRight_15 : decode cX7_areWantsRight 15 = .ok (.iload_n 1, 1) := by decide +kernel
theorem dX7_areWantsRight_16 : decode cX7_areWantsRight 16 = .ok (.aaload, 1) := by decide +kernel
theorem dX7_areWantsRight_17 : decode cX7_areWantsRight 17 = .ok (.iload_n 3, 1) := by decide +kernel
theorem dX7_areWantsRight_18 : decode cX7_areWantsRight 18 = .ok (.iaload, 1) := by decide +kernel
theorem dX7_areWantsRight_19 : decode cX7_areWantsRight 19 = .ok (.iadd, 1) := by decide +kernel
theorem dX7_areWantsRight_20 : decode cX7_areWantsRight 20 = .ok (.istore_n 2, 1) := by decide +kernel
theorem dX7_areWantsRight_21 : decode cX7_areWantsRight 21 = .ok (.iinc 3 1, 3) := by decide +kernel
theorem dX7_areWantsRight_24 : decode cX7_areWantsRight 24 = .ok (.goto (-20), 3) := by decide +kernel
theorem dX7_areWantsRight_27 : decode cX7_areWantsRight 27 = .ok (.iload_n 2, 1) := by decide +kernel
theorem dX7_areWantsRight_28 : decode cX7_areWantsRight 28 = .ok (.sipush 1000, 3) := by decide +kernel
theorem dX7_areWantsRight_31 : decode cX7_areWantsRight 31 = .ok (.if_icmp .ne 7, 3) := by decide +kernel
theorem dX7_areWantsRight_34 : decode cX7_areWantsRight 34 = .ok (.iconst 1, 1) := by decide +kernel
theorem dX7_areWantsRight_35 : decode cX7_areWantsRight 35 = .ok (.goto 4, 3) := by decide +kernel
theorem dX7_areWantsRight_38 : decode cX7_areWantsRight 38 = .ok (.iconst 0, 1) := by decide +kernel
theorem dX7_areWantsRight_39 : decode cX7_areWantsRight 39 = .ok (.ireturn, 1) := by decide +kernel
set_option maxRecDepth 20000 in
set_option maxRecDepth 100000 in
theorem ggX7_quarrel_X7_areTwoPosts : GoodIn wsX7_quarrel wsX7_areTwoPosts := goodIn_r _ [6, 7, 8, 9, 5, 10, 11, 30, 31, 32, 33, 34, 35, 36, 37, 38, 39, 40, 41, 42, 43] rfl (by decide +kernel)
set_option maxRecDepth 20000 in
theorem gX7_quarrel_X7_areTwoPosts : GoodIn wsX7_quarrel (wsV RX7 59 RX7 yX7_areTwoPosts wsX7_areTwoPosts) := goodIn_app (goodIn_of _ (by decide +kernel)) ggX7_quarrel_X7_areTwoPosts
set_option maxRecDepth 20000 in
set_option maxRecDepth 100000 in
theorem ggX7_quarrel_X7_canoeAt : GoodIn wsX7_quarrel wsX7_canoeAt := goodIn_r _ [15, 16, 30, 31, 32, 33, 34, 35, 36, 37, 38, 39, 40, 41, 42, 43] rfl (by decide +kernel)
set_option maxRecDepth 20000 in
theorem gX7_quarrel_X7_canoeAt : GoodIn wsX7_quarrel (wsV RX7 138 RX7 yX7_canoeAt wsX7_canoeAt) := goodIn_app (goodIn_of _ (by decide +kernel)) ggX7_quarrel_X7_canoeAt
set_option maxRecDepth 20000 in
set_option maxRecDepth 100000 in
theorem ggX7_quarrel_X0_isBetween : GoodIn wsX7_quarrel wsX0_isBetween := goodIn_r _ [21, 22, 23, 44, 45, 46, 47, 48, 49, 50, 51, 52, 53, 54] rfl (by decide +kernel)
set_option maxRecDepth 20000 in
theorem gX7_quarrel_X0_isBetween : GoodIn wsX7_quarrel (wsV RX7 257 RX0 yX0_isBetween wsX0_isBetween) := goodIn_app (goodIn_of _ (by decide +kernel)) ggX7_quarrel_X0_isBetween
set_option maxRecDepth 20000 in
set_option maxRecDepth 100000 in
theorem ggX7_quarrel_X0_partsBooks : GoodIn wsX7_quarrel wsX0_partsBooks := goodIn_r _ [27, 28, 29, 44, 45, 46, 47, 48, 49, 50, 51, 52, 53, 54] rfl (by decide +kernel)
set_option maxRecDepth 20000 in
theorem gX7_quarrel_X0_partsBooks : GoodIn wsX7_quarrel (wsV RX7 260 RX0 yX0_partsBooks wsX0_partsBooks) := goodIn_app (goodIn_of _ (by decide +kernel)) ggX7_quarrel_X0_partsBooks
theorem dX7_quarrel_0 : decode cX7_quarrel 0 = .ok (.aload_n 0, 1) := by decide +kernel
theorem dX7_quarrel_1 : decode cX7_quarrel 1 = .ok (.iload_n 1, 1) := by decide +kernel
theorem dX7_quarrel_2 : decode cX7_quarrel 2 = .ok (.iload_n 2, 1) := by decide +kernel
theorem dX7_quarrel_3 : decode cX7_quarrel 3 = .ok (.invokevirtual 59, 3) := by decide +kernel
theorem dX7_quarrel_6 : decode cX7_quarrel 6 = .ok (.ifCond .ne 5, 3) := by decide +kernel
theorem dX7_quarrel_9 : decode cX7_quarrel 9 = .ok (.iconst (-1), 1) := by decide +kernel
theorem dX7_quarrel_10 : decode cX7_quarrel 10 = .ok (.ireturn, 1) := by decide +kernel
theorem dX7_quarrel_11 : decode cX7_quarrel 11 = .ok (.iconst 0, 1) := by decide +kernel
theorem dX7_quarrel_12 : decode cX7_quarrel 12 = .ok (.istore_n 3, 1) := by decide +kernel
theorem dX7_quarrel_13 : decode cX7_quarrel 13 = .ok (.iload_n 3, 1) := by decide +kernel
theorem dX7_quarrel_14 : decode cX7_quarrel 14 = .ok (.aload_n 0, 1) := by decide +kernel
theorem dX7_quarrel_15 : decode cX7_quarrel 15 = .ok (.getfield 113, 3) := by decide +kernel
theorem dX7_quarrel_18 : decode cX7_quarrel 18 = .ok (.if_icmp .ge 41, 3) := by decide +kernel
theorem dX7_quarrel_21 : decode cX7_quarrel 21 = .ok (.aload_n 0, 1) := by decide +kernel
theorem dX7_quarrel_22 : decode cX7_quarrel 22 = .ok (.iload_n 3, 1) := by decide +kernel
theorem dX7_quarrel_23 : decode cX7_quarrel 23 = .ok (.invokevirtual 138, 3) := by decide +kernel
theorem dX7_quarrel_26 : decode cX7_quarrel 26 = .ok (.astore 4, 2) := by decide +kernel
theorem dX7_quarrel_28 : decode cX7_quarrel 28 = .ok (.aload 4, 2) := by decide +kernel
theorem dX7_quarrel_30 : decode cX7_quarrel 30 = .ok (.ifnull 23, 3) := by decide +kernel
theorem dX7_quarrel_33 : decode cX7_quarrel 33 = .ok (.aload 4, 2) := by decide +kernel
theorem dX7_quarrel_35 : decode cX7_quarrel 35 = .ok (.iload_n 1, 1) := by decide +kernel
theorem dX7_quarrel_36 : decode cX7_quarrel 36 = .ok (.iload_n 2, 1) := by decide +kernel
theorem dX7_quarrel_37 : decode cX7_quarrel 37 = .ok (.invokevirtual 257, 3) := by decide +kernel
theorem dX7_quarrel_40 : decode cX7_quarrel 40 = .ok (.ifCond .eq 13, 3) := by decide +kernel
theorem dX7_quarrel_43 : decode cX7_quarrel 43 = .ok (.aload 4, 2) := by decide +kernel
theorem dX7_quarrel_45 : decode cX7_quarrel 45 = .ok (.invokevirtual 260, 3) := by decide +kernel
theorem dX7_quarrel_48 : decode cX7_quarrel 48 = .ok (.ifCond .eq 5, 3) := by decide +kernel
theorem dX7_quarrel_51 : decode cX7_quarrel 51 = .ok (.iload_n 3, 1) := by decide +kernel
theorem dX7_quarrel_52 : decode cX7_quarrel 52 = .ok (.ireturn, 1) := by decide +kernel
theorem dX7_quarrel_53 : decode cX7_quarrel 53 = .ok (.iinc 3 1, 3) := by decide +kernel
theorem dX7_quarrel_56 : decode cX7_quarrel 56 = .ok (.goto (-43), 3) := by decide +kernel
theorem dX7_quarrel_59 : decode cX7_quarrel 59 = .ok (.iconst (-1), 1) := by decide +kernel
theorem dX7_quarrel_60 : decode cX7_quarrel 60 = .ok (.ireturn, 1) := by decide +kernel
set_option maxRecDepth 20000 in
set_option maxRecDepth 100000 in
theorem ggX7_canoe_X7_canoeAt : GoodIn wsX7_canoe wsX7_canoeAt := goodIn_r _ [15, 16, 31, 32, 33, 34, 35, 36, 37, 38, 39, 40, 41, 42, 43, 44] rfl (by decide +kernel)
set_option maxRecDepth 20000 in
theorem gX7_canoe_X7_canoeAt : GoodIn wsX7_canoe (wsV RX7 138 RX7 yX7_canoeAt wsX7_canoeAt) := goodIn_app (goodIn_of _ (by decide +kernel)) ggX7_canoe_X7_canoeAt
set_option maxRecDepth 20000 in
set_option maxRecDepth 100000 in
theorem ggX7_canoe_X7_isWare : GoodIn wsX7_canoe wsX7_isWare := goodIn_r _ [19] rfl (by decide +kernel)
set_option maxRecDepth 20000 in
theorem gX7_canoe_X7_isWare : GoodIn wsX7_canoe (va_wsS RX7 88 yX7_isWare wsX7_isWare) := goodIn_app (goodIn_of _ (by decide +kernel)) ggX7_canoe_X7_isWare
theorem dX7_canoe_0 : decode cX7_canoe 0 = .ok (.aload_n 0, 1) := by decide +kernel
theorem dX7_canoe_1 : decode cX7_canoe 1 = .ok (.iload_n 1, 1) := by decide +kernel
theorem dX7_canoe_2 : decode cX7_canoe 2 = .ok (.invokevirtual 138, 3) := by decide +kernel
theorem dX7_canoe_5 : decode cX7_canoe 5 = .ok (.astore_n 3, 1) := by decide +kernel
theorem dX7_canoe_6 : decode cX7_canoe 6 = .ok (.aload_n 3, 1) := by decide +kernel
theorem dX7_canoe_7 : decode cX7_canoe 7 = .ok (.ifnonnull 5, 3) := by decide +kernel
theorem dX7_canoe_10 : decode cX7_canoe 10 = .ok (.iconst (-1), 1) := by decide +kernel
theorem dX7_canoe_11 : decode cX7_canoe 11 = .ok (.ireturn, 1) := by decide +kernel
theorem dX7_canoe_12 : decode cX7_canoe 12 = .ok (.iload_n 2, 1) := by decide +kernel
theorem dX7_canoe_13 : decode cX7_canoe 13 = .ok (.bipush 10, 2) := by decide +kernel
theorem dX7_canoe_15 : decode cX7_canoe 15 = .ok (.isub, 1) := by decide +kernel
theorem dX7_canoe_16 : decode cX7_canoe 16 = .ok (.invokestatic 88, 3) := by decide +kernel
theorem dX7_canoe_19 : decode cX7_canoe 19 = .ok (.ifCond .eq 13, 3) := by decide +kernel
theorem dX7_canoe_22 : decode cX7_canoe 22 = .ok (.aload_n 3, 1) := by decide +kernel
theorem dX7_canoe_23 : decode cX7_canoe 23 = .ok (.getfield 148, 3) := by decide +kernel
theorem dX7_canoe_26 : decode cX7_canoe 26 = .ok (.iload_n 2, 1) := by decide +kernel
theorem dX7_canoe_27 : decode cX7_canoe 27 = .ok (.bipush 10, 2) := by decide +kernel
theorem dX7_canoe_29 : decode cX7_canoe 29 = .ok (.isub, 1) := by decide +kernel
theorem dX7_canoe_30 : decode cX7_canoe 30 = .ok (.iaload, 1) := by decide +kernel
theorem dX7_canoe_31 : decode cX7_canoe 31 = .ok (.ireturn, 1) := by decide +kernel
theorem dX7_canoe_32 : decode cX7_canoe 32 = .ok (.iload_n 2, 1) := by decide +kernel
theorem dX7_canoe_33 : decode cX7_canoe 33 = .ok (.bipush 20, 2) := by decide +kernel
theorem dX7_canoe_35 : decode cX7_canoe 35 = .ok (.isub, 1) := by decide +kernel
theorem dX7_canoe_36 : decode cX7_canoe 36 = .ok (.invokestatic 88, 3) := by decide +kernel
theorem dX7_canoe_39 : decode cX7_canoe 39 = .ok (.ifCond .eq 13, 3) := by decide +kernel
theorem dX7_canoe_42 : decode cX7_canoe 42 = .ok (.aload_n 3, 1) := by decide +kernel
theorem dX7_canoe_43 : decode cX7_canoe 43 = .ok (.getfield 264, 3) := by decide +kernel
theorem dX7_canoe_46 : decode cX7_canoe 46 = .ok (.iload_n 2, 1) := by decide +kernel
theorem dX7_canoe_47 : decode cX7_canoe 47 = .ok (.bipush 20, 2) := by decide +kernel
theorem dX7_canoe_49 : decode cX7_canoe 49 = .ok (.isub, 1) := by decide +kernel
theorem dX7_canoe_50 : decode cX7_canoe 50 = .ok (.iaload, 1) := by decide +kernel
theorem dX7_canoe_51 : decode cX7_canoe 51 = .ok (.ireturn, 1) := by decide +kernel
theorem dX7_canoe_52 : decode cX7_canoe 52 = .ok (.iload_n 2, 1) := by decide +kernel
theorem dX7_canoe_53 : decode cX7_canoe 53 = .ok (.tableswitch 87 0 7 #[47, 52, 57, 62, 67, 72, 77, 82], 47) := by decide +kernel
theorem dX7_canoe_100 : decode cX7_canoe 100 = .ok (.aload_n 3, 1) := by decide +kernel
theorem dX7_canoe_101 : decode cX7_canoe 101 = .ok (.getfield 175, 3) := by decide +kernel
theorem dX7_canoe_104 : decode cX7_canoe 104 = .ok (.ireturn, 1) := by decide +kernel
theorem dX7_canoe_105 : decode cX7_canoe 105 = .ok (.aload_n 3, 1) := by decide +kernel
theorem dX7_canoe_106 : decode cX7_canoe 106 = .ok (.getfield 184, 3) := by decide +kernel
theorem dX7_canoe_109 : decode cX7_canoe 109 = .ok (.ireturn, 1) := by decide +kernel
theorem dX7_canoe_110 : decode cX7_canoe 110 = .ok (.aload_n 3, 1) := by decide +kernel
theorem dX7_canoe_111 : decode cX7_canoe 111 = .ok (.getfield 193, 3) := by decide +kernel
theorem dX7_canoe_114 : decode cX7_canoe 114 = .ok (.ireturn, 1) := by decide +kernel
theorem dX7_canoe_115 : decode cX7_canoe 115 = .ok (.aload_n 3, 1) := by decide +kernel
theorem dX7_canoe_116 : decode cX7_canoe 116 = .ok (.getfield 145, 3) := by decide +kernel
theorem dX7_canoe_119 : decode cX7_canoe 119 = .ok (.ireturn, 1) := by decide +kernel
theorem dX7_canoe_120 : decode cX7_canoe 120 = .ok (.aload_n 3, 1) := by decide +kernel
theorem dX7_canoe_121 : decode cX7_canoe 121 = .ok (.getfield 142, 3) := by decide +kernel
theorem dX7_canoe_124 : decode cX7_canoe 124 = .ok (.ireturn, 1) := by decide +kernel
theorem dX7_canoe_125 : decode cX7_canoe 125 = .ok (.aload_n 3, 1) := by decide +kernel
theorem dX7_canoe_126 : decode cX7_canoe 126 = .ok (.getfield 267, 3) := by decide +kernel
theorem dX7_canoe_129 : decode cX7_canoe 129 = .ok (.ireturn, 1) := by decide +kernel
theorem dX7_canoe_130 : decode cX7_canoe 130 = .ok (.aload_n 3, 1) := by decide +kernel
theorem dX7_canoe_131 : decode cX7_canoe 131 = .ok (.getfield 204, 3) := by decide +kernel
theorem dX7_canoe_134 : decode cX7_canoe 134 = .ok (.ireturn, 1) := by decide +kernel
theorem dX7_canoe_135 : decode cX7_canoe 135 = .ok (.aload_n 3, 1) := by decide +kernel
theorem dX7_canoe_136 : decode cX7_canoe 136 = .ok (.getfield 135, 3) := by decide +kernel
theorem dX7_canoe_139 : decode cX7_canoe 139 = .ok (.ireturn, 1) := by decide +kernel
theorem dX7_canoe_140 : decode cX7_canoe 140 = .ok (.iconst (-1), 1) := by decide +kernel
theorem dX7_canoe_141 : decode cX7_canoe 141 = .ok (.ireturn, 1) := by decide +kernel
set_option maxRecDepth 20000 in
set_option maxRecDepth 100000 in
theorem ggX7_told_X7_postAt : GoodIn wsX7_told wsX7_postAt := goodIn_r _ [6, 7, 32, 33, 34, 35, 36, 37, 38, 39, 40, 41, 42, 43, 44, 45] rfl (by decide +kernel)
set_option maxRecDepth 20000 in
theorem gX7_told_X7_postAt : GoodIn wsX7_told (wsV RX7 84 RX7 yX7_postAt wsX7_postAt) := goodIn_app (goodIn_of _ (by decide +kernel)) ggX7_told_X7_postAt
set_option maxRecDepth 20000 in
set_option maxRecDepth 100000 in
theorem ggX7_told_X7_isWare : GoodIn wsX7_told wsX7_isWare := goodIn_r _ [10] rfl (by decide +kernel)
set_option maxRecDepth 20000 in
theorem gX7_told_X7_isWare : GoodIn wsX7_told (va_wsS RX7 88 yX7_isWare wsX7_isWare) := goodIn_app (goodIn_of _ (by decide +kernel)) ggX7_told_X7_isWare
set_option maxRecDepth 20000 in
set_option maxRecDepth 100000 in
theorem ggX7_told_X7_countBag : GoodIn wsX7_told wsX7_countBag := goodIn_r _ [14, 15, 16, 17, 18, 19, 5, 20, 21, 32, 33, 34, 35, 36, 37, 38, 39, 40, 41, 42, 43, 44, 45, 46, 47, 48, 49, 50, 51, 52, 53, 54, 55, 56, 57, 58, 59, 60, 61, 62, 63] rfl (by decide +kernel)
set_option maxRecDepth 20000 in
theorem gX7_told_X7_countBag : GoodIn wsX7_told (wsV RX7 270 RX7 yX7_countBag wsX7_countBag) := goodIn_app (goodIn_of _ (by decide +kernel)) ggX7_told_X7_countBag
set_option maxRecDepth 20000 in
set_option maxRecDepth 100000 in
theorem ggX7_told_X4_owedByAll : GoodIn wsX7_told wsX4_owedByAll := goodIn_r _ [26, 27, 28, 29, 30, 31] rfl (by decide +kernel)
set_option maxRecDepth 20000 in
theorem gX7_told_X4_owedByAll : GoodIn wsX7_told (wsV RX7 273 RX4 yX4_owedByAll wsX4_owedByAll) := goodIn_app (goodIn_of _ (by decide +kernel)) ggX7_told_X4_owedByAll
theorem dX7_told_0 : decode cX7_told 0 = .ok (.aload_n 0, 1) := by decide +kernel
theorem dX7_told_1 : decode cX7_told 1 = .ok (.iload_n 1, 1) := by decide +kernel
theorem dX7_told_2 : decode cX7_told 2 = .ok (.invokevirtual 84, 3) := by decide +kernel
theorem dX7_told_5 : decode cX7_told 5 = .ok (.astore_n 3, 1) := by decide +kernel
theorem dX7_told_6 : decode cX7_told 6 = .ok (.aload_n 3, 1) := by decide +kernel
theorem dX7_told_7 : decode cX7_told 7 = .ok (.ifnonnull 5, 3) := by decide +kernel
theorem dX7_told_10 : decode cX7_told 10 = .ok (.iconst (-1), 1) := by decide +kernel
theorem dX7_told_11 : decode cX7_told 11 = .ok (.ireturn, 1) := by decide +kernel
theorem dX7_told_12 : decode cX7_told 12 = .ok (.iload_n 2, 1) := by decide +kernel
theorem dX7_told_13 : decode cX7_told 13 = .ok (.invokestatic 88, 3) := by decide +kernel
theorem dX7_told_16 : decode cX7_told 16 = .ok (.ifCond .eq 10, 3) := by decide +kernel
theorem dX7_told_19 : decode cX7_told 19 = .ok (.aload_n 3, 1) := by decide +kernel
theorem dX7_told_20 : decode cX7_told 20 = .ok (.getfield 92, 3) := by decide +kernel
theorem dX7_told_23 : decode cX7_told 23 = .ok (.iload_n 2, 1) := by decide +kernel
theorem dX7_told_24 : decode cX7_told 24 = .ok (.iaload, 1) := by decide +kernel
theorem dX7_told_25 : decode cX7_told 25 = .ok (.ireturn, 1) := by decide +kernel
theorem dX7_told_26 : decode cX7_told 26 = .ok (.iload_n 2, 1) := by decide +kernel
theorem dX7_told_27 : decode cX7_told 27 = .ok (.lookupswitch 36 #[(6, 25), (7, 31)], 25) := by decide +kernel
theorem dX7_told_52 : decode cX7_told 52 = .ok (.aload_n 0, 1) := by decide +kernel
theorem dX7_told_53 : decode cX7_told 53 = .ok (.iload_n 1, 1) := by decide +kernel
theorem dX7_told_54 : decode cX7_told 54 = .ok (.invokevirtual 270, 3) := by decide +kernel
theorem dX7_told_57 : decode cX7_told 57 = .ok (.ireturn, 1) := by decide +kernel
theorem dX7_told_58 : decode cX7_told 58 = .ok (.aload_n 3, 1) := by decide +kernel
theorem dX7_told_59 : decode cX7_told 59 = .ok (.invokevirtual 273, 3) := by decide +kernel
theorem dX7_told_62 : decode cX7_told 62 = .ok (.ireturn, 1) := by decide +kernel
theorem dX7_told_63 : decode cX7_told 63 = .ok (.iconst (-1), 1) := by decide +kernel
theorem dX7_told_64 : decode cX7_told 64 = .ok (.ireturn, 1) := by decide +kernel
set_option maxRecDepth 20000 in
set_option maxRecDepth 100000 in
theorem ggX7_count_X7_countOfAll : GoodIn wsX7_count wsX7_countOfAll := goodIn_r _ [6, 7, 8, 9, 10, 11, 12, 19, 20, 21, 22, 23, 24, 25, 26, 27, 28, 29, 30, 31, 32] rfl (by decide +kernel)
set_option maxRecDepth 20000 in
theorem gX7_count_X7_countOfAll : GoodIn wsX7_count (wsV RX7 277 RX7 yX7_countOfAll wsX7_countOfAll) := goodIn_app (goodIn_of _ (by decide +kernel)) ggX7_count_X7_countOfAll
set_option maxRecDepth 20000 in
set_option maxRecDepth 100000 in
theorem ggX7_count_X7_isWare : GoodIn wsX7_count wsX7_isWare := goodIn_r _ [15] rfl (by decide +kernel)
set_option maxRecDepth 20000 in
theorem gX7_count_X7_isWare : GoodIn wsX7_count (va_wsS RX7 88 yX7_isWare wsX7_isWare) := goodIn_app (goodIn_of _ (by decide +kernel)) ggX7_count_X7_isWare
set_option maxRecDepth 20000 in
set_option maxRecDepth 100000 in
theorem ggX7_count_X7_isWithin : GoodIn wsX7_count wsX7_isWithin := goodIn_r _ [18] rfl (by decide +kernel)
set_option maxRecDepth 20000 in
theorem gX7_count_X7_isWithin : GoodIn wsX7_count (va_wsS RX7 66 yX7_isWithin wsX7_isWithin) := goodIn_app (goodIn_of _ (by decide +kernel)) ggX7_count_X7_isWithin
theorem dX7_count_0 : decode cX7_count 0 = .ok (.iload_n 1, 1) := by decide +kernel
theorem dX7_count_1 : decode cX7_count 1 = .ok (.iconst (-1), 1) := by decide +kernel
theorem dX7_count_2 : decode cX7_count 2 = .ok (.if_icmp .ne 9, 3) := by decide +kernel
theorem dX7_count_5 : decode cX7_count 5 = .ok (.aload_n 0, 1) := by decide +kernel
theorem dX7_count_6 : decode cX7_count 6 = .ok (.iload_n 2, 1) := by decide +kernel
theorem dX7_count_7 : decode cX7_count 7 = .ok (.invokevirtual 277, 3) := by decide +kernel
theorem dX7_count_10 : decode cX7_count 10 = .ok (.ireturn, 1) := by decide +kernel
theorem dX7_count_11 : decode cX7_count 11 = .ok (.iload_n 1, 1) := by decide +kernel
theorem dX7_count_12 : decode cX7_count 12 = .ok (.invokestatic 88, 3) := by decide +kernel
theorem dX7_count_15 : decode cX7_count 15 = .ok (.ifCond .eq 23, 3) := by decide +kernel
theorem dX7_count_18 : decode cX7_count 18 = .ok (.iload_n 2, 1) := by decide +kernel
theorem dX7_count_19 : decode cX7_count 19 = .ok (.iconst 0, 1) := by decide +kernel
theorem dX7_count_20 : decode cX7_count 20 = .ok (.iconst 5, 1) := by decide +kernel
theorem dX7_count_21 : decode cX7_count 21 = .ok (.invokestatic 66, 3) := by decide +kernel
theorem dX7_count_24 : decode cX7_count 24 = .ok (.ifCond .eq 14, 3) := by decide +kernel
theorem dX7_count_27 : decode cX7_count 27 = .ok (.aload_n 0, 1) := by decide +kernel
theorem dX7_count_28 : decode cX7_count 28 = .ok (.getfield 41, 3) := by decide +kernel
theorem dX7_count_31 : decode cX7_count 31 = .ok (.iload_n 1, 1) := by decide +kernel
theorem dX7_count_32 : decode cX7_count 32 = .ok (.aaload, 1) := by decide +kernel
theorem dX7_count_33 : decode cX7_count 33 = .ok (.iload_n 2, 1) := by decide +kernel
theorem dX7_count_34 : decode cX7_count 34 = .ok (.iaload, 1) := by decide +kernel
theorem dX7_count_35 : decode cX7_count 35 = .ok (.goto 4, 3) := by decide +kernel
theorem dX7_count_38 : decode cX7_count 38 = .ok (.iconst (-1), 1) := by decide +kernel
theorem dX7_count_39 : decode cX7_count 39 = .ok (.ireturn, 1) := by decide +kernel
set_option maxRecDepth 20000 in
set_option maxRecDepth 100000 in
theorem ggX7_countBag_X7_letterAt : GoodIn wsX7_countBag wsX7_letterAt := goodIn_r _ [7, 8, 9, 10, 11, 12, 13, 14, 15, 16, 17, 18, 19, 20, 21, 22] rfl (by decide +kernel)
set_option maxRecDepth 20000 in
theorem gX7_countBag_X7_letterAt : GoodIn wsX7_countBag (wsV RX7 168 RX7 yX7_letterAt wsX7_letterAt) := goodIn_app (goodIn_of _ (by decide +kernel)) ggX7_countBag_X7_letterAt
theorem dX7_countBag_0 : decode cX7_countBag 0 = .ok (.iconst 0, 1) := by decide +kernel
theorem dX7_countBag_1 : decode cX7_countBag 1 = .ok (.istore_n 2, 1) := by decide +kernel
theorem dX7_countBag_2 : decode cX7_countBag 2 = .ok (.iconst 0, 1) := by decide +kernel
theorem dX7_countBag_3 : decode cX7_countBag 3 = .ok (.istore_n 3, 1) := by decide +kernel
theorem dX7_countBag_4 : decode cX7_countBag 4 = .ok (.iload_n 3, 1) := by decide +kernel
theorem dX7_countBag_5 : decode cX7_countBag 5 = .ok (.aload_n 0, 1) := by decide +kernel
theorem dX7_countBag_6 : decode cX7_countBag 6 = .ok (.getfield 165, 3) := by decide +kernel
theorem dX7_countBag_9 : decode cX7_countBag 9 = .ok (.if_icmp .ge 33, 3) := by decide +kernel
theorem dX7_countBag_12 : decode cX7_countBag 12 = .ok (.aload_n 0, 1) := by decide +kernel
theorem dX7_countBag_13 : decode cX7_countBag 13 = .ok (.iload_n 3, 1) := by decide +kernel
theorem dX7_countBag_14 : decode cX7_countBag 14 = .ok (.invokevirtual 168, 3) := by decide +kernel
theorem dX7_countBag_17 : decode cX7_countBag 17 = .ok (.astore 4, 2) := by decide +kernel
theorem dX7_countBag_19 : decode cX7_countBag 19 = .ok (.aload 4, 2) := by decide +kernel
theorem dX7_countBag_21 : decode cX7_countBag 21 = .ok (.ifnull 15, 3) := by decide +kernel
theorem dX7_countBag_24 : decode cX7_countBag 24 = .ok (.aload 4, 2) := by decide +kernel
theorem dX7_countBag_26 : decode cX7_countBag 26 = .ok (.getfield 172, 3) := by decide +kernel
theorem dX7_countBag_29 : decode cX7_countBag 29 = .ok (.iload_n 1, 1) := by decide +kernel
theorem dX7_countBag_30 : decode cX7_countBag 30 = .ok (.if_icmp .ne 6, 3) := by decide +kernel
theorem dX7_countBag_33 : decode cX7_countBag 33 = .ok (.iinc 2 1, 3) := by decide +kernel
theorem dX7_countBag_36 : decode cX7_countBag 36 = .ok (.iinc 3 1, 3) := by decide +kernel
theorem dX7_countBag_39 : decode cX7_countBag 39 = .ok (.goto (-35), 3) := by decide +kernel
theorem dX7_countBag_42 : decode cX7_countBag 42 = .ok (.iload_n 2, 1) := by decide +kernel
theorem dX7_countBag_43 : decode cX7_countBag 43 = .ok (.ireturn, 1) := by decide +kernel
theorem dX7_countOfAll_0 : decode cX7_countOfAll 0 = .ok (.iload_n 1, 1) := by decide +kernel
theorem dX7_countOfAll_1 : decode cX7_countOfAll 1 = .ok (.tableswitch 69 0 5 #[39, 44, 49, 54, 59, 64], 39) := by decide +kernel
theorem dX7_countOfAll_40 : decode cX7_countOfAll 40 = .ok (.aload_n 0, 1) := by decide +kernel
theorem dX7_countOfAll_41 : decode cX7_countOfAll 41 = .ok (.getfield 103, 3) := by decide +kernel
theorem dX7_countOfAll_44 : decode cX7_countOfAll 44 = .ok (.ireturn, 1) := by decide +kernel
theorem dX7_countOfAll_45 : decode cX7_countOfAll 45 = .ok (.aload_n 0, 1) := by decide +kernel
theorem dX7_countOfAll_46 : decode cX7_countOfAll 46 = .ok (.getfield 54, 3) := by decide +kernel
theorem dX7_countOfAll_49 : decode cX7_countOfAll 49 = .ok (.ireturn, 1) := by decide +kernel
theorem dX7_countOfAll_50 : decode cX7_countOfAll 50 = .ok (.aload_n 0, 1) := by decide +kernel
theorem dX7_countOfAll_51 : decode cX7_countOfAll 51 = .ok (.getfield 63, 3) := by decide +kernel
theorem dX7_countOfAll_54 : decode cX7_countOfAll 54 = .ok (.ireturn, 1) := by decide +kernel
theorem dX7_countOfAll_55 : decode cX7_countOfAll 55 = .ok (.aload_n 0, 1) := by decide +kernel
theorem dX7_countOfAll_56 : decode cX7_countOfAll 56 = .ok (.getfield 113, 3) := by decide +kernel
theorem dX7_countOfAll_59 : decode cX7_countOfAll 59 = .ok (.ireturn, 1) := by decide +kernel
theorem dX7_countOfAll_60 : decode cX7_countOfAll 60 = .ok (.aload_n 0, 1) := by decide +kernel
theorem dX7_countOfAll_61 : decode cX7_countOfAll 61 = .ok (.getfield 165, 3) := by decide +kernel
theorem dX7_countOfAll_64 : decode cX7_countOfAll 64 = .ok (.ireturn, 1) := by decide +kernel
theorem dX7_countOfAll_65 : decode cX7_countOfAll 65 = .ok (.aload_n 0, 1) := by decide +kernel
theorem dX7_countOfAll_66 : decode cX7_countOfAll 66 = .ok (.getfield 190, 3) := by decide +kernel
theorem dX7_countOfAll_69 : decode cX7_countOfAll 69 = .ok (.ireturn, 1) := by decide +kernel
theorem dX7_countOfAll_70 : decode cX7_countOfAll 70 = .ok (.iconst (-1), 1) := by decide +kernel
theorem dX7_countOfAll_71 : decode cX7_countOfAll 71 = .ok (.ireturn, 1) := by decide +kernel
theorem dX7_isWithin_0 : decode cX7_isWithin 0 = .ok (.iload_n 0, 1) := by decide +kernel
theorem dX7_isWithin_1 : decode cX7_isWithin 1 = .ok (.iload_n 1, 1) := by decide +kernel
theorem dX7_isWithin_2 : decode cX7_isWithin 2 = .ok (.if_icmp .lt 12, 3) := by decide +kernel
theorem dX7_isWithin_5 : decode cX7_isWithin 5 = .ok (.iload_n 0, 1) := by decide +kernel
theorem dX7_isWithin_6 : decode cX7_isWithin 6 = .ok (.iload_n 2, 1) := by decide +kernel
theorem dX7_isWithin_7 : decode cX7_isWithin 7 = .ok (.if_icmp .gt 7, 3) := by decide +kernel
theorem dX7_isWithin_10 : decode cX7_isWithin 10 = .ok (.iconst 1, 1) := by decide +kernel
theorem dX7_isWithin_11 : decode cX7_isWithin 11 = .ok (.goto 4, 3) := by decide +kernel
theorem dX7_isWithin_14 : decode cX7_isWithin 14 = .ok (.iconst 0, 1) := by decide +kernel
theorem dX7_isWithin_15 : decode cX7_isWithin 15 = .ok (.ireturn, 1) := by decide +kernel
theorem dX7_isWare_0 : decode cX7_isWare 0 = .ok (.iload_n 0, 1) := by decide +kernel
theorem dX7_isWare_1 : decode cX7_isWare 1 = .ok (.ifCond .lt 13, 3) := by decide +kernel
theorem dX7_isWare_4 : decode cX7_isWare 4 = .ok (.iload_n 0, 1) := by decide +kernel
theorem dX7_isWare_5 : decode cX7_isWare 5 = .ok (.bipush 6, 2) := by decide +kernel
theorem dX7_isWare_7 : decode cX7_isWare 7 = .ok (.if_icmp .ge 7, 3) := by decide +kernel
theorem dX7_isWare_10 : decode cX7_isWare 10 = .ok (.iconst 1, 1) := by decide +kernel
theorem dX7_isWare_11 : decode cX7_isWare 11 = .ok (.goto 4, 3) := by decide +kernel
theorem dX7_isWare_14 : decode cX7_isWare 14 = .ok (.iconst 0, 1) := by decide +kernel
theorem dX7_isWare_15 : decode cX7_isWare 15 = .ok (.ireturn, 1) := by decide +kernel
theorem dX7_isHunter_0 : decode cX7_isHunter 0 = .ok (.iload_n 0, 1) := by decide +kernel
theorem dX7_isHunter_1 : decode cX7_isHunter 1 = .ok (.ifCond .lt 13, 3) := by decide +kernel
theorem dX7_isHunter_4 : decode cX7_isHunter 4 = .ok (.iload_n 0, 1) := by decide +kernel
theorem dX7_isHunter_5 : decode cX7_isHunter 5 = .ok (.bipush 12, 2) := by decide +kernel
theorem dX7_isHunter_7 : decode cX7_isHunter 7 = .ok (.if_icmp .ge 7, 3) := by decide +kernel
theorem dX7_isHunter_10 : decode cX7_isHunter 10 = .ok (.iconst 1, 1) := by decide +kernel
theorem dX7_isHunter_11 : decode cX7_isHunter 11 = .ok (.goto 4, 3) := by decide +kernel
theorem dX7_isHunter_14 : decode cX7_isHunter 14 = .ok (.iconst 0, 1) := by decide +kernel
theorem dX7_isHunter_15 : decode cX7_isHunter 15 = .ok (.ireturn, 1) := by decide +kernel
set_option maxRecDepth 20000 in
set_option maxRecDepth 100000 in
theorem ggX7_areTwoPosts_X7_postAt : GoodIn wsX7_areTwoPosts wsX7_postAt := goodIn_r _ [5, 6, 7, 8, 9, 10, 11, 12, 13, 14, 15, 16, 17, 18, 19, 20] rfl (by decide +kernel)
set_option maxRecDepth 20000 in
theorem gX7_areTwoPosts_X7_postAt : GoodIn wsX7_areTwoPosts (wsV RX7 84 RX7 yX7_postAt wsX7_postAt) := goodIn_app (goodIn_of _ (by decide +kernel)) ggX7_areTwoPosts_X7_postAt
theorem dX7_areTwoPosts_0 : decode cX7_areTwoPosts 0 = .ok (.iload_n 1, 1) := by decide +kernel
theorem dX7_areTwoPosts_1 : decode cX7_areTwoPosts 1 = .ok (.iload_n 2, 1) := by decide +kernel
theorem dX7_areTwoPosts_2 : decode cX7_areTwoPosts 2 = .ok (.if_icmp .eq 23, 3) := by decide +kernel
theorem dX7_areTwoPosts_5 : decode cX7_areTwoPosts 5 = .ok (.aload_n 0, 1) := by decide +kernel
theorem dX7_areTwoPosts_6 : decode cX7_areTwoPosts 6 = .ok (.iload_n 1, 1) := by decide +kernel
theorem dX7_areTwoPosts_7 : decode cX7_areTwoPosts 7 = .ok (.invokevirtual 84, 3) := by decide +kernel
theorem dX7_areTwoPosts_10 : decode cX7_areTwoPosts 10 = .ok (.ifnull 15, 3) := by decide +kernel
theorem dX7_areTwoPosts_13 : decode cX7_areTwoPosts 13 = .ok (.aload_n 0, 1) := by decide +kernel
theorem dX7_areTwoPosts_14 : decode cX7_areTwoPosts 14 = .ok (.iload_n 2, 1) := by decide +kernel
theorem dX7_areTwoPosts_15 : decode cX7_areTwoPosts 15 = .ok (.invokevirtual 84, 3) := by decide +kernel
theorem dX7_areTwoPosts_18 : decode cX7_areTwoPosts 18 = .ok (.ifnull 7, 3) := by decide +kernel
theorem dX7_areTwoPosts_21 : decode cX7_areTwoPosts 21 = .ok (.iconst 1, 1) := by decide +kernel
theorem dX7_areTwoPosts_22 : decode cX7_areTwoPosts 22 = .ok (.goto 4, 3) := by decide +kernel
theorem dX7_areTwoPosts_25 : decode cX7_areTwoPosts 25 = .ok (.iconst 0, 1) := by decide +kernel
theorem dX7_areTwoPosts_26 : decode cX7_areTwoPosts 26 = .ok (.ireturn, 1) := by decide +kernel
theorem dX7_postAt_0 : decode cX7_postAt 0 = .ok (.iload_n 1, 1) := by decide +kernel
theorem dX7_postAt_1 : decode cX7_postAt 1 = .ok (.ifCond .lt 18, 3) := by decide +kernel
theorem dX7_postAt_4 : decode cX7_postAt 4 = .ok (.iload_n 1, 1) := by decide +kernel
theorem dX7_postAt_5 : decode cX7_postAt 5 = .ok (.bipush 8, 2) := by decide +kernel
theorem dX7_postAt_7 : decode cX7_postAt 7 = .ok (.if_icmp .ge 12, 3) := by decide +kernel
theorem dX7_postAt_10 : decode cX7_postAt 10 = .ok (.aload_n 0, 1) := by decide +kernel
theorem dX7_postAt_11 : decode cX7_postAt 11 = .ok (.getfield 11, 3) := by decide +kernel
theorem dX7_postAt_14 : decode cX7_postAt 14 = .ok (.iload_n 1, 1) := by decide +kernel
theorem dX7_postAt_15 : decode cX7_postAt 15 = .ok (.aaload, 1) := by decide +kernel
theorem dX7_postAt_16 : decode cX7_postAt 16 = .ok (.goto 4, 3) := by decide +kernel
theorem dX7_postAt_19 : decode cX7_postAt 19 = .ok (.aconst_null, 1) := by decide +kernel
theorem dX7_postAt_20 : decode cX7_postAt 20 = .ok (.areturn, 1) := by decide +kernel
theorem dX7_wayAt_0 : decode cX7_wayAt 0 = .ok (.iload_n 1, 1) := by decide +kernel
theorem dX7_wayAt_1 : decode cX7_wayAt 1 = .ok (.ifCond .lt 18, 3) := by decide +kernel
theorem dX7_wayAt_4 : decode cX7_wayAt 4 = .ok (.iload_n 1, 1) := by decide +kernel
theorem dX7_wayAt_5 : decode cX7_wayAt 5 = .ok (.bipush 12, 2) := by decide +kernel
theorem dX7_wayAt_7 : decode cX7_wayAt 7 = .ok (.if_icmp .ge 12, 3) := by decide +kernel
theorem dX7_wayAt_10 : decode cX7_wayAt 10 = .ok (.aload_n 0, 1) := by decide +kernel
theorem dX7_wayAt_11 : decode cX7_wayAt 11 = .ok (.getfield 17, 3) := by decide +kernel
theorem dX7_wayAt_14 : decode cX7_wayAt 14 = .ok (.iload_n 1, 1) := by decide +kernel
theorem dX7_wayAt_15 : decode cX7_wayAt 15 = .ok (.aaload, 1) := by decide +kernel
theorem dX7_wayAt_16 : decode cX7_wayAt 16 = .ok (.goto 4, 3) := by decide +kernel
theorem dX7_wayAt_19 : decode cX7_wayAt 19 = .ok (.aconst_null, 1) := by decide +kernel
theorem dX7_wayAt_20 : decode cX7_wayAt 20 = .ok (.areturn, 1) := by decide +kernel
theorem dX7_canoeAt_0 : decode cX7_canoeAt 0 = .ok (.iload_n 1, 1) := by decide +kernel
theorem dX7_canoeAt_1 : decode cX7_canoeAt 1 = .ok (.ifCond .lt 18, 3) := by decide +kernel
theorem dX7_canoeAt_4 : decode cX7_canoeAt 4 = .ok (.iload_n 1, 1) := by decide +kernel
theorem dX7_canoeAt_5 : decode cX7_canoeAt 5 = .ok (.bipush 120, 2) := by decide +kernel
theorem dX7_canoeAt_7 : decode cX7_canoeAt 7 = .ok (.if_icmp .ge 12, 3) := by decide +kernel
theorem dX7_canoeAt_10 : decode cX7_canoeAt 10 = .ok (.aload_n 0, 1) := by decide +kernel
theorem dX7_canoeAt_11 : decode cX7_canoeAt 11 = .ok (.getfield 23, 3) := by decide +kernel
theorem dX7_canoeAt_14 : decode cX7_canoeAt 14 = .ok (.iload_n 1, 1) := by decide +kernel
theorem dX7_canoeAt_15 : decode cX7_canoeAt 15 = .ok (.aaload, 1) := by decide +kernel
theorem dX7_canoeAt_16 : decode cX7_canoeAt 16 = .ok (.goto 4, 3) := by decide +kernel
theorem dX7_canoeAt_19 : decode cX7_canoeAt 19 = .ok (.aconst_null, 1) := by decide +kernel
theorem dX7_canoeAt_20 : decode cX7_canoeAt 20 = .ok (.areturn, 1) := by decide +kernel
theorem dX7_letterAt_0 : decode cX7_letterAt 0 = .ok (.iload_n 1, 1) := by decide +kernel
theorem dX7_letterAt_1 : decode cX7_letterAt 1 = .ok (.ifCond .lt 19, 3) := by decide +kernel
theorem dX7_letterAt_4 : decode cX7_letterAt 4 = .ok (.iload_n 1, 1) := by decide +kernel
theorem dX7_letterAt_5 : decode cX7_letterAt 5 = .ok (.sipush 300, 3) := by decide +kernel
theorem dX7_letterAt_8 : decode cX7_letterAt 8 = .ok (.if_icmp .ge 12, 3) := by decide +kernel
theorem dX7_letterAt_11 : decode cX7_letterAt 11 = .ok (.aload_n 0, 1) := by decide +kernel
theorem dX7_letterAt_12 : decode cX7_letterAt 12 = .ok (.getfield 29, 3) := by decide +kernel
theorem dX7_letterAt_15 : decode cX7_letterAt 15 = .ok (.iload_n 1, 1) := by decide +kernel
theorem dX7_letterAt_16 : decode cX7_letterAt 16 = .ok (.aaload, 1) := by decide +kernel
theorem dX7_letterAt_17 : decode cX7_letterAt 17 = .ok (.goto 4, 3) := by decide +kernel
theorem dX7_letterAt_20 : decode cX7_letterAt 20 = .ok (.aconst_null, 1) := by decide +kernel
theorem dX7_letterAt_21 : decode cX7_letterAt 21 = .ok (.areturn, 1) := by decide +kernel
theorem dX8_init_0 : decode cX8_init 0 = .ok (.aload_n 0, 1) := by decide +kernel
theorem dX8_init_1 : decode cX8_init 1 = .ok (.invokespecial 1, 3) := by decide +kernel
theorem dX8_init_4 : decode cX8_init 4 = .ok (.aload_n 0, 1) := by decide +kernel
theorem dX8_init_5 : decode cX8_init 5 = .ok (.bipush 48, 2) := by decide +kernel
theorem dX8_init_7 : decode cX8_init 7 = .ok (.newarray .int, 2) := by decide +kernel
theorem dX8_init_9 : decode cX8_init 9 = .ok (.putfield 9, 3) := by decide +kernel
theorem dX8_init_12 : decode cX8_init 12 = .ok (.aload_n 0, 1) := by decide +kernel
theorem dX8_init_13 : decode cX8_init 13 = .ok (.bipush 48, 2) := by decide +kernel
theorem dX8_init_15 : decode cX8_init 15 = .ok (.newarray .int, 2) := by decide +kernel
theorem dX8_init_17 : decode cX8_init 17 = .ok (.putfield 13, 3) := by decide +kernel
theorem dX8_init_20 : decode cX8_init 20 = .ok (.aload_n 0, 1) := by decide +kernel
theorem dX8_init_21 : decode cX8_init 21 = .ok (.bipush 96, 2) := by decide +kernel
theorem dX8_init_23 : decode cX8_init 23 = .ok (.newarray .int, 2) := by decide +kernel
theorem dX8_init_25 : decode cX8_init 25 = .ok (.putfield 16, 3) := by decide +kernel
theorem dX8_init_28 : decode cX8_init 28 = .ok (.aload_n 0, 1) := by decide +kernel
theorem dX8_init_29 : decode cX8_init 29 = .ok (.bipush 12, 2) := by decide +kernel
theorem dX8_init_31 : decode cX8_init 31 = .ok (.newarray .int, 2) := by decide +kernel
theorem dX8_init_33 : decode cX8_init 33 = .ok (.putfield 19, 3) := by decide +kernel
theorem dX8_init_36 : decode cX8_init 36 = .ok (.aload_n 0, 1) := by decide +kernel
theorem dX8_init_37 : decode cX8_init 37 = .ok (.bipush 12, 2) := by decide +kernel
theorem dX8_init_39 : decode cX8_init 39 = .ok (.newarray .int, 2) := by decide +kernel
theorem dX8_init_41 : decode cX8_init 41 = .ok (.putfield 22, 3) := by decide +kernel
theorem dX8_init_44 : decode cX8_init 44 = .ok (.aload_n 0, 1) := by decide +kernel
theorem dX8_init_45 : decode cX8_init 45 = .ok (.bipush 12, 2) := by decide +kernel
theorem dX8_init_47 : decode cX8_init 47 = .ok (.newarray .int, 2) := by decide +kernel
theorem dX8_init_49 : decode cX8_init 49 = .ok (.putfield 25, 3) := by decide +kernel
theorem dX8_init_52 : decode cX8_init 52 = .ok (.aload_n 0, 1) := by decide +kernel
theorem dX8_init_53 : decode cX8_init 53 = .ok (.bipush 12, 2) := by decide +kernel
theorem dX8_init_55 : decode cX8_init 55 = .ok (.newarray .int, 2) := by decide +kernel
theorem dX8_init_57 : decode cX8_init 57 = .ok (.putfield 28, 3) := by decide +kernel
theorem dX8_init_60 : decode cX8_init 60 = .ok (.aload_n 0, 1) := by decide +kernel
theorem dX8_init_61 : decode cX8_init 61 = .ok (.bipush 12, 2) := by decide +kernel
theorem dX8_init_63 : decode cX8_init 63 = .ok (.newarray .int, 2) := by decide +kernel
theorem dX8_init_65 : decode cX8_init 65 = .ok (.putfield 31, 3) := by decide +kernel
theorem dX8_init_68 : decode cX8_init 68 = .ok (.aload_n 0, 1) := by decide +kernel
theorem dX8_init_69 : decode cX8_init 69 = .ok (.bipush 12, 2) := by decide +kernel
theorem dX8_init_71 : decode cX8_init 71 = .ok (.newarray .int, 2) := by decide +kernel
theorem dX8_init_73 : decode cX8_init 73 = .ok (.putfield 34, 3) := by decide +kernel
theorem dX8_init_76 : decode cX8_init 76 = .ok (.aload_n 0, 1) := by decide +kernel
theorem dX8_init_77 : decode cX8_init 77 = .ok (.bipush 6, 2) := by decide +kernel
theorem dX8_init_79 : decode cX8_init 79 = .ok (.newarray .int, 2) := by decide +kernel
theorem dX8_init_81 : decode cX8_init 81 = .ok (.putfield 37, 3) := by decide +kernel
theorem dX8_init_84 : decode cX8_init 84 = .ok (.aload_n 0, 1) := by decide +kernel
theorem dX8_init_85 : decode cX8_init 85 = .ok (.bipush 120, 2) := by decide +kernel
theorem dX8_init_87 : decode cX8_init 87 = .ok (.newarray .int, 2) := by decide +kernel
theorem dX8_init_89 : decode cX8_init 89 = .ok (.putfield 40, 3) := by decide +kernel
theorem dX8_init_92 : decode cX8_init 92 = .ok (.aload_n 0, 1) := by decide +kernel
theorem dX8_init_93 : decode cX8_init 93 = .ok (.bipush 120, 2) := by decide +kernel
theorem dX8_init_95 : decode cX8_init 95 = .ok (.newarray .int, 2) := by decide +kernel
theorem dX8_init_97 : decode cX8_init 97 = .ok (.putfield 43, 3) := by decide +kernel
theorem dX8_init_100 : decode cX8_init 100 = .ok (.aload_n 0, 1) := by decide +kernel
theorem dX8_init_101 : decode cX8_init 101 = .ok (.bipush 120, 2) := by decide +kernel
theorem dX8_init_103 : decode cX8_init 103 = .ok (.newarray .int, 2) := by decide +kernel
theorem dX8_init_105 : decode cX8_init 105 = .ok (.putfield 46, 3) := by decide +kernel
theorem dX8_init_108 : decode cX8_init 108 = .ok (.aload_n 0, 1) := by decide +kernel
theorem dX8_init_109 : decode cX8_init 109 = .ok (.bipush 120, 2) := by decide +kernel
theorem dX8_init_111 : decode cX8_init 111 = .ok (.newarray .int, 2) := by decide +kernel
theorem dX8_init_113 : decode cX8_init 113 = .ok (.putfield 49, 3) := by decide +kernel
theorem dX8_init_116 : decode cX8_init 116 = .ok (.aload_n 0, 1) := by decide +kernel
theorem dX8_init_117 : decode cX8_init 117 = .ok (.bipush 120, 2) := by decide +kernel
theorem dX8_init_119 : decode cX8_init 119 = .ok (.newarray .int, 2) := by decide +kernel
theorem dX8_init_121 : decode cX8_init 121 = .ok (.putfield 52, 3) := by decide +kernel
theorem dX8_init_124 : decode cX8_init 124 = .ok (.aload_n 0, 1) := by decide +kernel
theorem dX8_init_125 : decode cX8_init 125 = .ok (.bipush 120, 2) := by decide +kernel
theorem dX8_init_127 : decode cX8_init 127 = .ok (.newarray .int, 2) := by decide +kernel
theorem dX8_init_129 : decode cX8_init 129 = .ok (.putfield 55, 3) := by decide +kernel
theorem dX8_init_132 : decode cX8_init 132 = .ok (.aload_n 0, 1) := by decide +kernel
theorem dX8_init_133 : decode cX8_init 133 = .ok (.bipush 120, 2) := by decide +kernel
theorem dX8_init_135 : decode cX8_init 135 = .ok (.newarray .int, 2) := by decide +kernel
theorem dX8_init_137 : decode cX8_init 137 = .ok (.putfield 58, 3) := by decide +kernel
theorem dX8_init_140 : decode cX8_init 140 = .ok (.aload_n 0, 1) := by decide +kernel
theorem dX8_init_141 : decode cX8_init 141 = .ok (.bipush 120, 2) := by decide +kernel
theorem dX8_init_143 : decode cX8_init 143 = .ok (.newarray .int, 2) := by decide +kernel
theorem dX8_init_145 : decode cX8_init 145 = .ok (.putfield 61, 3) := by decide +kernel
