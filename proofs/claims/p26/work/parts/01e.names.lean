theorem dX8_sell_70 : decode cX8_sell 70 = .ok (.iload 5, 2) := by decide +kernel
theorem dX8_sell_72 : decode cX8_sell 72 = .ok (.iload 6, 2) := by decide +kernel
theorem dX8_sell_74 : decode cX8_sell 74 = .ok (.iastore, 1) := by decide +kernel
theorem dX8_sell_75 : decode cX8_sell 75 = .ok (.aload_n 0, 1) := by decide +kernel
theorem dX8_sell_76 : decode cX8_sell 76 = .ok (.getfield 9, 3) := by decide +kernel
theorem dX8_sell_79 : decode cX8_sell 79 = .ok (.bipush 6, 2) := by decide +kernel
theorem dX8_sell_81 : decode cX8_sell 81 = .ok (.iload_n 1, 1) := by decide +kernel
theorem dX8_sell_82 : decode cX8_sell 82 = .ok (.imul, 1) := by decide +kernel
theorem dX8_sell_83 : decode cX8_sell 83 = .ok (.iload_n 3, 1) := by decide +kernel
theorem dX8_sell_84 : decode cX8_sell 84 = .ok (.iadd, 1) := by decide +kernel
theorem dX8_sell_85 : decode cX8_sell 85 = .ok (.dup2, 1) := by decide +kernel
theorem dX8_sell_86 : decode cX8_sell 86 = .ok (.iaload, 1) := by decide +kernel
theorem dX8_sell_87 : decode cX8_sell 87 = .ok (.iload 4, 2) := by decide +kernel
theorem dX8_sell_89 : decode cX8_sell 89 = .ok (.isub, 1) := by decide +kernel
theorem dX8_sell_90 : decode cX8_sell 90 = .ok (.iastore, 1) := by decide +kernel
theorem dX8_sell_91 : decode cX8_sell 91 = .ok (.aload_n 0, 1) := by decide +kernel
theorem dX8_sell_92 : decode cX8_sell 92 = .ok (.iconst 1, 1) := by decide +kernel
theorem dX8_sell_93 : decode cX8_sell 93 = .ok (.iload_n 3, 1) := by decide +kernel
theorem dX8_sell_94 : decode cX8_sell 94 = .ok (.iload 4, 2) := by decide +kernel
theorem dX8_sell_96 : decode cX8_sell 96 = .ok (.invokevirtual 134, 3) := by decide +kernel
theorem dX8_sell_99 : decode cX8_sell 99 = .ok (.iload 6, 2) := by decide +kernel
theorem dX8_sell_101 : decode cX8_sell 101 = .ok (.ireturn, 1) := by decide +kernel
set_option maxRecDepth 20000 in
set_option maxRecDepth 100000 in
theorem ggX8_buy_X8_isDeal : GoodIn wsX8_buy wsX8_isDeal := goodIn_r _ [10, 11, 12, 13, 9, 14, 15, 16, 17, 18, 19, 20, 21, 31, 32, 33, 34, 35, 36, 37, 38, 39, 40, 41, 42, 43, 44, 45, 46, 47, 48, 49, 50, 51, 52, 53, 54, 55, 56, 57, 58, 59, 60, 61, 62, 63, 64, 65, 66, 67] rfl (by decide +kernel)
set_option maxRecDepth 20000 in
theorem gX8_buy_X8_isDeal : GoodIn wsX8_buy (wsV RX8 166 RX8 yX8_isDeal wsX8_isDeal) := goodIn_app (goodIn_of _ (by decide +kernel)) ggX8_buy_X8_isDeal
set_option maxRecDepth 20000 in
set_option maxRecDepth 100000 in
theorem ggX8_buy_X8_stored : GoodIn wsX8_buy wsX8_stored := goodIn_r _ [25, 5, 31, 32, 33, 34, 35, 36, 37, 38, 39, 40, 41, 42, 43, 44, 45, 46, 47, 48, 49, 50, 51, 52, 53, 54, 55, 56, 57, 58, 59, 60, 61, 62, 63, 64, 65, 66, 67] rfl (by decide +kernel)
set_option maxRecDepth 20000 in
theorem gX8_buy_X8_stored : GoodIn wsX8_buy (wsV RX8 130 RX8 yX8_stored wsX8_stored) := goodIn_app (goodIn_of _ (by decide +kernel)) ggX8_buy_X8_stored
set_option maxRecDepth 20000 in
set_option maxRecDepth 100000 in
theorem ggX8_buy_X8_sums : GoodIn wsX8_buy wsX8_sums := goodIn_r _ [29, 30, 31, 32, 33, 34, 35, 36, 37, 38, 39, 40, 41, 42, 43, 44, 45, 46, 47, 48, 49, 50, 51, 52, 53, 54, 55, 56, 57, 58, 59, 60, 61, 62, 63, 64, 65, 66, 67] rfl (by decide +kernel)
set_option maxRecDepth 20000 in
theorem gX8_buy_X8_sums : GoodIn wsX8_buy (wsV RX8 134 RX8 yX8_sums wsX8_sums) := goodIn_app (goodIn_of _ (by decide +kernel)) ggX8_buy_X8_sums
theorem dX8_buy_0 : decode cX8_buy 0 = .ok (.aload_n 0, 1) := by decide +kernel
theorem dX8_buy_1 : decode cX8_buy 1 = .ok (.iload_n 1, 1) := by decide +kernel
theorem dX8_buy_2 : decode cX8_buy 2 = .ok (.iload_n 2, 1) := by decide +kernel
theorem dX8_buy_3 : decode cX8_buy 3 = .ok (.iload_n 3, 1) := by decide +kernel
theorem dX8_buy_4 : decode cX8_buy 4 = .ok (.iload 4, 2) := by decide +kernel
theorem dX8_buy_6 : decode cX8_buy 6 = .ok (.invokevirtual 166, 3) := by decide +kernel
theorem dX8_buy_9 : decode cX8_buy 9 = .ok (.ifCond .eq 17, 3) := by decide +kernel
theorem dX8_buy_12 : decode cX8_buy 12 = .ok (.aload_n 0, 1) := by decide +kernel
theorem dX8_buy_13 : decode cX8_buy 13 = .ok (.iload_n 1, 1) := by decide +kernel
theorem dX8_buy_14 : decode cX8_buy 14 = .ok (.iload_n 3, 1) := by decide +kernel
theorem dX8_buy_15 : decode cX8_buy 15 = .ok (.invokevirtual 130, 3) := by decide +kernel
theorem dX8_buy_18 : decode cX8_buy 18 = .ok (.iload 4, 2) := by decide +kernel
theorem dX8_buy_20 : decode cX8_buy 20 = .ok (.iadd, 1) := by decide +kernel
theorem dX8_buy_21 : decode cX8_buy 21 = .ok (.ldc 133, 2) := by decide +kernel
theorem dX8_buy_23 : decode cX8_buy 23 = .ok (.if_icmp .le 5, 3) := by decide +kernel
theorem dX8_buy_26 : decode cX8_buy 26 = .ok (.iconst (-1), 1) := by decide +kernel
theorem dX8_buy_27 : decode cX8_buy 27 = .ok (.ireturn, 1) := by decide +kernel
theorem dX8_buy_28 : decode cX8_buy 28 = .ok (.bipush 12, 2) := by decide +kernel
theorem dX8_buy_30 : decode cX8_buy 30 = .ok (.iload_n 1, 1) := by decide +kernel
theorem dX8_buy_31 : decode cX8_buy 31 = .ok (.imul, 1) := by decide +kernel
theorem dX8_buy_32 : decode cX8_buy 32 = .ok (.iload_n 2, 1) := by decide +kernel
theorem dX8_buy_33 : decode cX8_buy 33 = .ok (.iadd, 1) := by decide +kernel
theorem dX8_buy_34 : decode cX8_buy 34 = .ok (.istore 5, 2) := by decide +kernel
theorem dX8_buy_36 : decode cX8_buy 36 = .ok (.aload_n 0, 1) := by decide +kernel
theorem dX8_buy_37 : decode cX8_buy 37 = .ok (.getfield 16, 3) := by decide +kernel
theorem dX8_buy_40 : decode cX8_buy 40 = .ok (.iload 5, 2) := by decide +kernel
theorem dX8_buy_42 : decode cX8_buy 42 = .ok (.iaload, 1) := by decide +kernel
theorem dX8_buy_43 : decode cX8_buy 43 = .ok (.iload 4, 2) := by decide +kernel
theorem dX8_buy_45 : decode cX8_buy 45 = .ok (.aload_n 0, 1) := by decide +kernel
theorem dX8_buy_46 : decode cX8_buy 46 = .ok (.getfield 13, 3) := by decide +kernel
theorem dX8_buy_49 : decode cX8_buy 49 = .ok (.bipush 6, 2) := by decide +kernel
theorem dX8_buy_51 : decode cX8_buy 51 = .ok (.iload_n 1, 1) := by decide +kernel
theorem dX8_buy_52 : decode cX8_buy 52 = .ok (.imul, 1) := by decide +kernel
theorem dX8_buy_53 : decode cX8_buy 53 = .ok (.iload_n 3, 1) := by decide +kernel
theorem dX8_buy_54 : decode cX8_buy 54 = .ok (.iadd, 1) := by decide +kernel
theorem dX8_buy_55 : decode cX8_buy 55 = .ok (.iaload, 1) := by decide +kernel
theorem dX8_buy_56 : decode cX8_buy 56 = .ok (.imul, 1) := by decide +kernel
theorem dX8_buy_57 : decode cX8_buy 57 = .ok (.isub, 1) := by decide +kernel
theorem dX8_buy_58 : decode cX8_buy 58 = .ok (.istore 6, 2) := by decide +kernel
theorem dX8_buy_60 : decode cX8_buy 60 = .ok (.iload 6, 2) := by decide +kernel
theorem dX8_buy_62 : decode cX8_buy 62 = .ok (.ldc 170, 2) := by decide +kernel
theorem dX8_buy_64 : decode cX8_buy 64 = .ok (.if_icmp .ge 5, 3) := by decide +kernel
theorem dX8_buy_67 : decode cX8_buy 67 = .ok (.iconst (-1), 1) := by decide +kernel
theorem dX8_buy_68 : decode cX8_buy 68 = .ok (.ireturn, 1) := by decide +kernel
theorem dX8_buy_69 : decode cX8_buy 69 = .ok (.aload_n 0, 1) := by decide +kernel
theorem dX8_buy_70 : decode cX8_buy 70 = .ok (.getfield 16, 3) := by decide +kernel
theorem dX8_buy_73 : decode cX8_buy 73 = .ok (.iload 5, 2) := by decide +kernel
theorem dX8_buy_75 : decode cX8_buy 75 = .ok (.iload 6, 2) := by decide +kernel
theorem dX8_buy_77 : decode cX8_buy 77 = .ok (.iastore, 1) := by decide +kernel
theorem dX8_buy_78 : decode cX8_buy 78 = .ok (.aload_n 0, 1) := by decide +kernel
theorem dX8_buy_79 : decode cX8_buy 79 = .ok (.getfield 9, 3) := by decide +kernel
theorem dX8_buy_82 : decode cX8_buy 82 = .ok (.bipush 6, 2) := by decide +kernel
theorem dX8_buy_84 : decode cX8_buy 84 = .ok (.iload_n 1, 1) := by decide +kernel
theorem dX8_buy_85 : decode cX8_buy 85 = .ok (.imul, 1) := by decide +kernel
theorem dX8_buy_86 : decode cX8_buy 86 = .ok (.iload_n 3, 1) := by decide +kernel
theorem dX8_buy_87 : decode cX8_buy 87 = .ok (.iadd, 1) := by decide +kernel
theorem dX8_buy_88 : decode cX8_buy 88 = .ok (.dup2, 1) := by decide +kernel
theorem dX8_buy_89 : decode cX8_buy 89 = .ok (.iaload, 1) := by decide +kernel
theorem dX8_buy_90 : decode cX8_buy 90 = .ok (.iload 4, 2) := by decide +kernel
theorem dX8_buy_92 : decode cX8_buy 92 = .ok (.iadd, 1) := by decide +kernel
theorem dX8_buy_93 : decode cX8_buy 93 = .ok (.iastore, 1) := by decide +kernel
theorem dX8_buy_94 : decode cX8_buy 94 = .ok (.aload_n 0, 1) := by decide +kernel
theorem dX8_buy_95 : decode cX8_buy 95 = .ok (.iconst 2, 1) := by decide +kernel
theorem dX8_buy_96 : decode cX8_buy 96 = .ok (.iload_n 3, 1) := by decide +kernel
theorem dX8_buy_97 : decode cX8_buy 97 = .ok (.iload 4, 2) := by decide +kernel
theorem dX8_buy_99 : decode cX8_buy 99 = .ok (.invokevirtual 134, 3) := by decide +kernel
theorem dX8_buy_102 : decode cX8_buy 102 = .ok (.iload 6, 2) := by decide +kernel
theorem dX8_buy_104 : decode cX8_buy 104 = .ok (.ireturn, 1) := by decide +kernel
set_option maxRecDepth 20000 in
set_option maxRecDepth 100000 in
theorem ggX8_give_X8_isDeal : GoodIn wsX8_give wsX8_isDeal := goodIn_r _ [6, 7, 8, 9, 5, 10, 11, 12, 13, 14, 15, 16, 17, 27, 28, 29, 30, 31, 32, 33, 34, 35, 36, 37, 38, 39, 40, 41, 42, 43, 44, 45, 46, 47, 48, 49, 50, 51, 52, 53, 54, 55, 56, 57, 58, 59, 60, 61, 62, 63] rfl (by decide +kernel)
set_option maxRecDepth 20000 in
theorem gX8_give_X8_isDeal : GoodIn wsX8_give (wsV RX8 166 RX8 yX8_isDeal wsX8_isDeal) := goodIn_app (goodIn_of _ (by decide +kernel)) ggX8_give_X8_isDeal
set_option maxRecDepth 20000 in
set_option maxRecDepth 100000 in
theorem ggX8_give_X8_stored : GoodIn wsX8_give wsX8_stored := goodIn_r _ [21, 1, 27, 28, 29, 30, 31, 32, 33, 34, 35, 36, 37, 38, 39, 40, 41, 42, 43, 44, 45, 46, 47, 48, 49, 50, 51, 52, 53, 54, 55, 56, 57, 58, 59, 60, 61, 62, 63] rfl (by decide +kernel)
set_option maxRecDepth 20000 in
theorem gX8_give_X8_stored : GoodIn wsX8_give (wsV RX8 130 RX8 yX8_stored wsX8_stored) := goodIn_app (goodIn_of _ (by decide +kernel)) ggX8_give_X8_stored
set_option maxRecDepth 20000 in
set_option maxRecDepth 100000 in
theorem ggX8_give_X8_sums : GoodIn wsX8_give wsX8_sums := goodIn_r _ [25, 26, 27, 28, 29, 30, 31, 32, 33, 34, 35, 36, 37, 38, 39, 40, 41, 42, 43, 44, 45, 46, 47, 48, 49, 50, 51, 52, 53, 54, 55, 56, 57, 58, 59, 60, 61, 62, 63] rfl (by decide +kernel)
set_option maxRecDepth 20000 in
theorem gX8_give_X8_sums : GoodIn wsX8_give (wsV RX8 134 RX8 yX8_sums wsX8_sums) := goodIn_app (goodIn_of _ (by decide +kernel)) ggX8_give_X8_sums
theorem dX8_give_0 : decode cX8_give 0 = .ok (.aload_n 0, 1) := by decide +kernel
theorem dX8_give_1 : decode cX8_give 1 = .ok (.iload_n 1, 1) := by decide +kernel
theorem dX8_give_2 : decode cX8_give 2 = .ok (.iload_n 2, 1) := by decide +kernel
theorem dX8_give_3 : decode cX8_give 3 = .ok (.iload_n 3, 1) := by decide +kernel
theorem dX8_give_4 : decode cX8_give 4 = .ok (.iload 4, 2) := by decide +kernel
theorem dX8_give_6 : decode cX8_give 6 = .ok (.invokevirtual 166, 3) := by decide +kernel
theorem dX8_give_9 : decode cX8_give 9 = .ok (.ifCond .eq 14, 3) := by decide +kernel
theorem dX8_give_12 : decode cX8_give 12 = .ok (.aload_n 0, 1) := by decide +kernel
theorem dX8_give_13 : decode cX8_give 13 = .ok (.iload_n 1, 1) := by decide +kernel
theorem dX8_give_14 : decode cX8_give 14 = .ok (.iload_n 3, 1) := by decide +kernel
theorem dX8_give_15 : decode cX8_give 15 = .ok (.invokevirtual 130, 3) := by decide +kernel
theorem dX8_give_18 : decode cX8_give 18 = .ok (.iload 4, 2) := by decide +kernel
theorem dX8_give_20 : decode cX8_give 20 = .ok (.if_icmp .ge 5, 3) := by decide +kernel
theorem dX8_give_23 : decode cX8_give 23 = .ok (.iconst (-1), 1) := by decide +kernel
theorem dX8_give_24 : decode cX8_give 24 = .ok (.ireturn, 1) := by decide +kernel
theorem dX8_give_25 : decode cX8_give 25 = .ok (.aload_n 0, 1) := by decide +kernel
theorem dX8_give_26 : decode cX8_give 26 = .ok (.getfield 9, 3) := by decide +kernel
theorem dX8_give_29 : decode cX8_give 29 = .ok (.bipush 6, 2) := by decide +kernel
theorem dX8_give_31 : decode cX8_give 31 = .ok (.iload_n 1, 1) := by decide +kernel
theorem dX8_give_32 : decode cX8_give 32 = .ok (.imul, 1) := by decide +kernel
theorem dX8_give_33 : decode cX8_give 33 = .ok (.iload_n 3, 1) := by decide +kernel
theorem dX8_give_34 : decode cX8_give 34 = .ok (.iadd, 1) := by decide +kernel
theorem dX8_give_35 : decode cX8_give 35 = .ok (.dup2, 1) := by decide +kernel
theorem dX8_give_36 : decode cX8_give 36 = .ok (.iaload, 1) := by decide +kernel
theorem dX8_give_37 : decode cX8_give 37 = .ok (.iload 4, 2) := by decide +kernel
theorem dX8_give_39 : decode cX8_give 39 = .ok (.isub, 1) := by decide +kernel
theorem dX8_give_40 : decode cX8_give 40 = .ok (.iastore, 1) := by decide +kernel
theorem dX8_give_41 : decode cX8_give 41 = .ok (.aload_n 0, 1) := by decide +kernel
theorem dX8_give_42 : decode cX8_give 42 = .ok (.iconst 3, 1) := by decide +kernel
theorem dX8_give_43 : decode cX8_give 43 = .ok (.iload_n 3, 1) := by decide +kernel
theorem dX8_give_44 : decode cX8_give 44 = .ok (.iload 4, 2) := by decide +kernel
theorem dX8_give_46 : decode cX8_give 46 = .ok (.invokevirtual 134, 3) := by decide +kernel
theorem dX8_give_49 : decode cX8_give 49 = .ok (.aload_n 0, 1) := by decide +kernel
theorem dX8_give_50 : decode cX8_give 50 = .ok (.iload_n 1, 1) := by decide +kernel
theorem dX8_give_51 : decode cX8_give 51 = .ok (.iload_n 3, 1) := by decide +kernel
theorem dX8_give_52 : decode cX8_give 52 = .ok (.invokevirtual 130, 3) := by decide +kernel
theorem dX8_give_55 : decode cX8_give 55 = .ok (.ireturn, 1) := by decide +kernel
set_option maxRecDepth 20000 in
set_option maxRecDepth 100000 in
theorem ggX8_owes_X8_isPost : GoodIn wsX8_owes wsX8_isPost := goodIn_r _ [6, 7, 8, 9, 5, 10, 11, 12, 13, 14, 15, 16, 17, 18, 19, 20, 21, 22, 23, 24, 25, 26, 27, 28, 29, 30, 31, 32, 33, 34, 35, 36, 37, 38, 39, 40, 41, 42, 43, 44, 45, 46, 47] rfl (by decide +kernel)
set_option maxRecDepth 20000 in
theorem gX8_owes_X8_isPost : GoodIn wsX8_owes (wsV RX8 119 RX8 yX8_isPost wsX8_isPost) := goodIn_app (goodIn_of _ (by decide +kernel)) ggX8_owes_X8_isPost
set_option maxRecDepth 20000 in
set_option maxRecDepth 100000 in
theorem ggX8_owes_X8_in : GoodIn wsX8_owes wsX8_in := goodIn_r _ [10] rfl (by decide +kernel)
set_option maxRecDepth 20000 in
theorem gX8_owes_X8_in : GoodIn wsX8_owes (va_wsS RX8 108 yX8_in wsX8_in) := goodIn_app (goodIn_of _ (by decide +kernel)) ggX8_owes_X8_in
theorem dX8_owes_0 : decode cX8_owes 0 = .ok (.aload_n 0, 1) := by decide +kernel
theorem dX8_owes_1 : decode cX8_owes 1 = .ok (.iload_n 1, 1) := by decide +kernel
theorem dX8_owes_2 : decode cX8_owes 2 = .ok (.invokevirtual 119, 3) := by decide +kernel
theorem dX8_owes_5 : decode cX8_owes 5 = .ok (.ifCond .eq 27, 3) := by decide +kernel
theorem dX8_owes_8 : decode cX8_owes 8 = .ok (.iload_n 2, 1) := by decide +kernel
theorem dX8_owes_9 : decode cX8_owes 9 = .ok (.iconst 0, 1) := by decide +kernel
theorem dX8_owes_10 : decode cX8_owes 10 = .ok (.bipush 11, 2) := by decide +kernel
theorem dX8_owes_12 : decode cX8_owes 12 = .ok (.invokestatic 108, 3) := by decide +kernel
theorem dX8_owes_15 : decode cX8_owes 15 = .ok (.ifCond .eq 17, 3) := by decide +kernel
theorem dX8_owes_18 : decode cX8_owes 18 = .ok (.aload_n 0, 1) := by decide +kernel
theorem dX8_owes_19 : decode cX8_owes 19 = .ok (.getfield 16, 3) := by decide +kernel
theorem dX8_owes_22 : decode cX8_owes 22 = .ok (.bipush 12, 2) := by decide +kernel
theorem dX8_owes_24 : decode cX8_owes 24 = .ok (.iload_n 1, 1) := by decide +kernel
theorem dX8_owes_25 : decode cX8_owes 25 = .ok (.imul, 1) := by decide +kernel
theorem dX8_owes_26 : decode cX8_owes 26 = .ok (.iload_n 2, 1) := by decide +kernel
theorem dX8_owes_27 : decode cX8_owes 27 = .ok (.iadd, 1) := by decide +kernel
theorem dX8_owes_28 : decode cX8_owes 28 = .ok (.iaload, 1) := by decide +kernel
theorem dX8_owes_29 : decode cX8_owes 29 = .ok (.goto 4, 3) := by decide +kernel
theorem dX8_owes_32 : decode cX8_owes 32 = .ok (.iconst 0, 1) := by decide +kernel
theorem dX8_owes_33 : decode cX8_owes 33 = .ok (.ireturn, 1) := by decide +kernel
set_option maxRecDepth 20000 in
set_option maxRecDepth 100000 in
theorem ggX8_price_X8_isPost : GoodIn wsX8_price wsX8_isPost := goodIn_r _ [6, 7, 8, 9, 5, 10, 14, 15, 16, 17, 18, 19, 20, 21, 22, 23, 24, 25, 26, 27, 28, 29, 30, 31, 32, 33, 34, 35, 36, 37, 38, 39, 40, 41, 42, 43, 44, 45, 46, 47, 48, 49, 50] rfl (by decide +kernel)
set_option maxRecDepth 20000 in
theorem gX8_price_X8_isPost : GoodIn wsX8_price (wsV RX8 119 RX8 yX8_isPost wsX8_isPost) := goodIn_app (goodIn_of _ (by decide +kernel)) ggX8_price_X8_isPost
set_option maxRecDepth 20000 in
set_option maxRecDepth 100000 in
theorem ggX8_price_X8_isWare : GoodIn wsX8_price wsX8_isWare := goodIn_r _ [13, 8, 9, 5, 10] rfl (by decide +kernel)
set_option maxRecDepth 20000 in
theorem gX8_price_X8_isWare : GoodIn wsX8_price (va_wsS RX8 127 yX8_isWare wsX8_isWare) := goodIn_app (goodIn_of _ (by decide +kernel)) ggX8_price_X8_isWare
theorem dX8_price_0 : decode cX8_price 0 = .ok (.aload_n 0, 1) := by decide +kernel
theorem dX8_price_1 : decode cX8_price 1 = .ok (.iload_n 1, 1) := by decide +kernel
theorem dX8_price_2 : decode cX8_price 2 = .ok (.invokevirtual 119, 3) := by decide +kernel
theorem dX8_price_5 : decode cX8_price 5 = .ok (.ifCond .eq 24, 3) := by decide +kernel
theorem dX8_price_8 : decode cX8_price 8 = .ok (.iload_n 2, 1) := by decide +kernel
theorem dX8_price_9 : decode cX8_price 9 = .ok (.invokestatic 127, 3) := by decide +kernel
theorem dX8_price_12 : decode cX8_price 12 = .ok (.ifCond .eq 17, 3) := by decide +kernel
theorem dX8_price_15 : decode cX8_price 15 = .ok (.aload_n 0, 1) := by decide +kernel
theorem dX8_price_16 : decode cX8_price 16 = .ok (.getfield 13, 3) := by decide +kernel
theorem dX8_price_19 : decode cX8_price 19 = .ok (.bipush 6, 2) := by decide +kernel
theorem dX8_price_21 : decode cX8_price 21 = .ok (.iload_n 1, 1) := by decide +kernel
theorem dX8_price_22 : decode cX8_price 22 = .ok (.imul, 1) := by decide +kernel
theorem dX8_price_23 : decode cX8_price 23 = .ok (.iload_n 2, 1) := by decide +kernel
theorem dX8_price_24 : decode cX8_price 24 = .ok (.iadd, 1) := by decide +kernel
theorem dX8_price_25 : decode cX8_price 25 = .ok (.iaload, 1) := by decide +kernel
theorem dX8_price_26 : decode cX8_price 26 = .ok (.goto 4, 3) := by decide +kernel
theorem dX8_price_29 : decode cX8_price 29 = .ok (.iconst (-1), 1) := by decide +kernel
theorem dX8_price_30 : decode cX8_price 30 = .ok (.ireturn, 1) := by decide +kernel
set_option maxRecDepth 20000 in
set_option maxRecDepth 100000 in
theorem ggX8_canWrite_X8_isPost : GoodIn wsX8_canWrite wsX8_isPost := goodIn_r _ [6, 7, 8, 9, 5, 10, 11, 12, 13, 14, 15, 16, 17, 18, 19, 20, 21, 22, 23, 24, 25, 26, 27, 28, 29, 30, 31, 32, 33, 34, 35, 36, 37, 38, 39, 40, 41, 42, 43, 44, 45, 46, 47] rfl (by decide +kernel)
set_option maxRecDepth 20000 in
theorem gX8_canWrite_X8_isPost : GoodIn wsX8_canWrite (wsV RX8 119 RX8 yX8_isPost wsX8_isPost) := goodIn_app (goodIn_of _ (by decide +kernel)) ggX8_canWrite_X8_isPost
theorem dX8_canWrite_0 : decode cX8_canWrite 0 = .ok (.aload_n 0, 1) := by decide +kernel
theorem dX8_canWrite_1 : decode cX8_canWrite 1 = .ok (.iload_n 1, 1) := by decide +kernel
theorem dX8_canWrite_2 : decode cX8_canWrite 2 = .ok (.invokevirtual 119, 3) := by decide +kernel
theorem dX8_canWrite_5 : decode cX8_canWrite 5 = .ok (.ifCond .eq 30, 3) := by decide +kernel
theorem dX8_canWrite_8 : decode cX8_canWrite 8 = .ok (.aload_n 0, 1) := by decide +kernel
theorem dX8_canWrite_9 : decode cX8_canWrite 9 = .ok (.iload_n 2, 1) := by decide +kernel
theorem dX8_canWrite_10 : decode cX8_canWrite 10 = .ok (.invokevirtual 119, 3) := by decide +kernel
theorem dX8_canWrite_13 : decode cX8_canWrite 13 = .ok (.ifCond .eq 22, 3) := by decide +kernel
theorem dX8_canWrite_16 : decode cX8_canWrite 16 = .ok (.iload_n 1, 1) := by decide +kernel
theorem dX8_canWrite_17 : decode cX8_canWrite 17 = .ok (.iload_n 2, 1) := by decide +kernel
theorem dX8_canWrite_18 : decode cX8_canWrite 18 = .ok (.if_icmp .eq 17, 3) := by decide +kernel
theorem dX8_canWrite_21 : decode cX8_canWrite 21 = .ok (.aload_n 0, 1) := by decide +kernel
theorem dX8_canWrite_22 : decode cX8_canWrite 22 = .ok (.getfield 144, 3) := by decide +kernel
theorem dX8_canWrite_25 : decode cX8_canWrite 25 = .ok (.sipush 300, 3) := by decide +kernel
theorem dX8_canWrite_28 : decode cX8_canWrite 28 = .ok (.if_icmp .ge 7, 3) := by decide +kernel
theorem dX8_canWrite_31 : decode cX8_canWrite 31 = .ok (.iconst 1, 1) := by decide +kernel
theorem dX8_canWrite_32 : decode cX8_canWrite 32 = .ok (.goto 4, 3) := by decide +kernel
theorem dX8_canWrite_35 : decode cX8_canWrite 35 = .ok (.iconst 0, 1) := by decide +kernel
theorem dX8_canWrite_36 : decode cX8_canWrite 36 = .ok (.ireturn, 1) := by decide +kernel
theorem dX8_writes_0 : decode cX8_writes 0 = .ok (.aload_n 0, 1) := by decide +kernel
theorem dX8_writes_1 : decode cX8_writes 1 = .ok (.getfield 74, 3) := by decide +kernel
theorem dX8_writes_4 : decode cX8_writes 4 = .ok (.aload_n 0, 1) := by decide +kernel
theorem dX8_writes_5 : decode cX8_writes 5 = .ok (.getfield 144, 3) := by decide +kernel
theorem dX8_writes_8 : decode cX8_writes 8 = .ok (.iload_n 1, 1) := by decide +kernel
theorem dX8_writes_9 : decode cX8_writes 9 = .ok (.iastore, 1) := by decide +kernel
theorem dX8_writes_10 : decode cX8_writes 10 = .ok (.aload_n 0, 1) := by decide +kernel
theorem dX8_writes_11 : decode cX8_writes 11 = .ok (.getfield 80, 3) := by decide +kernel
theorem dX8_writes_14 : decode cX8_writes 14 = .ok (.aload_n 0, 1) := by decide +kernel
theorem dX8_writes_15 : decode cX8_writes 15 = .ok (.getfield 144, 3) := by decide +kernel
theorem dX8_writes_18 : decode cX8_writes 18 = .ok (.iload_n 2, 1) := by decide +kernel
theorem dX8_writes_19 : decode cX8_writes 19 = .ok (.iastore, 1) := by decide +kernel
theorem dX8_writes_20 : decode cX8_writes 20 = .ok (.aload_n 0, 1) := by decide +kernel
theorem dX8_writes_21 : decode cX8_writes 21 = .ok (.getfield 77, 3) := by decide +kernel
theorem dX8_writes_24 : decode cX8_writes 24 = .ok (.aload_n 0, 1) := by decide +kernel
theorem dX8_writes_25 : decode cX8_writes 25 = .ok (.getfield 144, 3) := by decide +kernel
theorem dX8_writes_28 : decode cX8_writes 28 = .ok (.iload_n 3, 1) := by decide +kernel
theorem dX8_writes_29 : decode cX8_writes 29 = .ok (.iastore, 1) := by decide +kernel
theorem dX8_writes_30 : decode cX8_writes 30 = .ok (.aload_n 0, 1) := by decide +kernel
theorem dX8_writes_31 : decode cX8_writes 31 = .ok (.getfield 83, 3) := by decide +kernel
theorem dX8_writes_34 : decode cX8_writes 34 = .ok (.aload_n 0, 1) := by decide +kernel
theorem dX8_writes_35 : decode cX8_writes 35 = .ok (.getfield 144, 3) := by decide +kernel
theorem dX8_writes_38 : decode cX8_writes 38 = .ok (.iload 4, 2) := by decide +kernel
theorem dX8_writes_40 : decode cX8_writes 40 = .ok (.iastore, 1) := by decide +kernel
theorem dX8_writes_41 : decode cX8_writes 41 = .ok (.aload_n 0, 1) := by decide +kernel
theorem dX8_writes_42 : decode cX8_writes 42 = .ok (.getfield 86, 3) := by decide +kernel
theorem dX8_writes_45 : decode cX8_writes 45 = .ok (.aload_n 0, 1) := by decide +kernel
theorem dX8_writes_46 : decode cX8_writes 46 = .ok (.getfield 144, 3) := by decide +kernel
theorem dX8_writes_49 : decode cX8_writes 49 = .ok (.iload 5, 2) := by decide +kernel
theorem dX8_writes_51 : decode cX8_writes 51 = .ok (.iastore, 1) := by decide +kernel
theorem dX8_writes_52 : decode cX8_writes 52 = .ok (.aload_n 0, 1) := by decide +kernel
theorem dX8_writes_53 : decode cX8_writes 53 = .ok (.dup, 1) := by decide +kernel
theorem dX8_writes_54 : decode cX8_writes 54 = .ok (.getfield 144, 3) := by decide +kernel
theorem dX8_writes_57 : decode cX8_writes 57 = .ok (.iconst 1, 1) := by decide +kernel
theorem dX8_writes_58 : decode cX8_writes 58 = .ok (.iadd, 1) := by decide +kernel
theorem dX8_writes_59 : decode cX8_writes 59 = .ok (.putfield 144, 3) := by decide +kernel
theorem dX8_writes_62 : decode cX8_writes 62 = .ok (.aload_n 0, 1) := by decide +kernel
theorem dX8_writes_63 : decode cX8_writes 63 = .ok (.getfield 144, 3) := by decide +kernel
theorem dX8_writes_66 : decode cX8_writes 66 = .ok (.iconst 1, 1) := by decide +kernel
theorem dX8_writes_67 : decode cX8_writes 67 = .ok (.isub, 1) := by decide +kernel
theorem dX8_writes_68 : decode cX8_writes 68 = .ok (.ireturn, 1) := by decide +kernel
set_option maxRecDepth 20000 in
set_option maxRecDepth 100000 in
theorem ggX8_order_X8_canWrite : GoodIn wsX8_order wsX8_canWrite := goodIn_r _ [5, 6, 7, 8, 9, 4, 10, 11, 12, 13, 14, 27, 28, 29, 30, 31, 32, 33, 34, 35, 36, 37, 38, 39, 40, 41, 42, 43, 44, 45, 46, 47, 48, 49, 50, 51, 52, 53, 54, 55, 56, 57, 58, 59, 60, 61, 62, 63] rfl (by decide +kernel)
set_option maxRecDepth 20000 in
theorem gX8_order_X8_canWrite : GoodIn wsX8_order (wsV RX8 171 RX8 yX8_canWrite wsX8_canWrite) := goodIn_app (goodIn_of _ (by decide +kernel)) ggX8_order_X8_canWrite
set_option maxRecDepth 20000 in
set_option maxRecDepth 100000 in
theorem ggX8_order_X8_isWare : GoodIn wsX8_order wsX8_isWare := goodIn_r _ [17, 12, 13, 4, 14] rfl (by decide +kernel)
set_option maxRecDepth 20000 in
theorem gX8_order_X8_isWare : GoodIn wsX8_order (va_wsS RX8 127 yX8_isWare wsX8_isWare) := goodIn_app (goodIn_of _ (by decide +kernel)) ggX8_order_X8_isWare
set_option maxRecDepth 20000 in
set_option maxRecDepth 100000 in
theorem ggX8_order_X8_in : GoodIn wsX8_order wsX8_in := goodIn_r _ [14] rfl (by decide +kernel)
set_option maxRecDepth 20000 in
theorem gX8_order_X8_in : GoodIn wsX8_order (va_wsS RX8 108 yX8_in wsX8_in) := goodIn_app (goodIn_of _ (by decide +kernel)) ggX8_order_X8_in
set_option maxRecDepth 20000 in
set_option maxRecDepth 100000 in
theorem ggX8_order_X8_writes : GoodIn wsX8_order wsX8_writes := goodIn_r _ [21, 22, 6, 23, 24, 25, 26, 27, 28, 29, 30, 31, 32, 33, 34, 35, 36, 37, 38, 39, 40, 41, 42, 43, 44, 45, 46, 47, 48, 49, 50, 51, 52, 53, 54, 55, 56, 57, 58, 59, 60, 61, 62, 63] rfl (by decide +kernel)
set_option maxRecDepth 20000 in
theorem gX8_order_X8_writes : GoodIn wsX8_order (wsV RX8 174 RX8 yX8_writes wsX8_writes) := goodIn_app (goodIn_of _ (by decide +kernel)) ggX8_order_X8_writes
theorem dX8_order_0 : decode cX8_order 0 = .ok (.aload_n 0, 1) := by decide +kernel
theorem dX8_order_1 : decode cX8_order 1 = .ok (.iload_n 1, 1) := by decide +kernel
theorem dX8_order_2 : decode cX8_order 2 = .ok (.iload_n 2, 1) := by decide +kernel
theorem dX8_order_3 : decode cX8_order 3 = .ok (.invokevirtual 171, 3) := by decide +kernel
theorem dX8_order_6 : decode cX8_order 6 = .ok (.ifCond .eq 34, 3) := by decide +kernel
theorem dX8_order_9 : decode cX8_order 9 = .ok (.iload_n 3, 1) := by decide +kernel
theorem dX8_order_10 : decode cX8_order 10 = .ok (.invokestatic 127, 3) := by decide +kernel
theorem dX8_order_13 : decode cX8_order 13 = .ok (.ifCond .eq 27, 3) := by decide +kernel
theorem dX8_order_16 : decode cX8_order 16 = .ok (.iload 4, 2) := by decide +kernel
theorem dX8_order_18 : decode cX8_order 18 = .ok (.iconst 1, 1) := by decide +kernel
theorem dX8_order_19 : decode cX8_order 19 = .ok (.bipush 100, 2) := by decide +kernel
theorem dX8_order_21 : decode cX8_order 21 = .ok (.invokestatic 108, 3) := by decide +kernel
theorem dX8_order_24 : decode cX8_order 24 = .ok (.ifCond .eq 16, 3) := by decide +kernel
theorem dX8_order_27 : decode cX8_order 27 = .ok (.aload_n 0, 1) := by decide +kernel
theorem dX8_order_28 : decode cX8_order 28 = .ok (.iconst 0, 1) := by decide +kernel
theorem dX8_order_29 : decode cX8_order 29 = .ok (.iload_n 1, 1) := by decide +kernel
theorem dX8_order_30 : decode cX8_order 30 = .ok (.iload_n 2, 1) := by decide +kernel
theorem dX8_order_31 : decode cX8_order 31 = .ok (.iload_n 3, 1) := by decide +kernel
theorem dX8_order_32 : decode cX8_order 32 = .ok (.iload 4, 2) := by decide +kernel
theorem dX8_order_34 : decode cX8_order 34 = .ok (.invokevirtual 174, 3) := by decide +kernel
theorem dX8_order_37 : decode cX8_order 37 = .ok (.goto 4, 3) := by decide +kernel
theorem dX8_order_40 : decode cX8_order 40 = .ok (.iconst (-1), 1) := by decide +kernel
theorem dX8_order_41 : decode cX8_order 41 = .ok (.ireturn, 1) := by decide +kernel
set_option maxRecDepth 20000 in
set_option maxRecDepth 100000 in
theorem ggX8_debt_X8_canWrite : GoodIn wsX8_debt wsX8_canWrite := goodIn_r _ [6, 7, 8, 9, 10, 5, 11, 12, 13, 14, 15, 29, 30, 31, 32, 33, 34, 35, 36, 37, 38, 39, 40, 41, 42, 43, 44, 45, 46, 47, 48, 49, 50, 51, 52, 53, 54, 55, 56, 57, 58, 59, 60, 61, 62, 63, 64, 65] rfl (by decide +kernel)
set_option maxRecDepth 20000 in
theorem gX8_debt_X8_canWrite : GoodIn wsX8_debt (wsV RX8 171 RX8 yX8_canWrite wsX8_canWrite) := goodIn_app (goodIn_of _ (by decide +kernel)) ggX8_debt_X8_canWrite
set_option maxRecDepth 20000 in
set_option maxRecDepth 100000 in
theorem ggX8_debt_X8_in : GoodIn wsX8_debt wsX8_in := goodIn_r _ [15] rfl (by decide +kernel)
set_option maxRecDepth 20000 in
theorem gX8_debt_X8_in : GoodIn wsX8_debt (va_wsS RX8 108 yX8_in wsX8_in) := goodIn_app (goodIn_of _ (by decide +kernel)) ggX8_debt_X8_in
set_option maxRecDepth 20000 in
set_option maxRecDepth 100000 in
theorem ggX8_debt_X8_owes : GoodIn wsX8_debt wsX8_owes := goodIn_r _ [19, 1, 8, 9, 10, 5, 11, 12, 13, 14, 15, 29, 30, 31, 32, 33, 34, 35, 36, 37, 38, 39, 40, 41, 42, 43, 44, 45, 46, 47, 48, 49, 50, 51, 52, 53, 54, 55, 56, 57, 58, 59, 60, 61, 62, 63, 64, 65] rfl (by decide +kernel)
set_option maxRecDepth 20000 in
theorem gX8_debt_X8_owes : GoodIn wsX8_debt (wsV RX8 178 RX8 yX8_owes wsX8_owes) := goodIn_app (goodIn_of _ (by decide +kernel)) ggX8_debt_X8_owes
set_option maxRecDepth 20000 in
set_option maxRecDepth 100000 in
theorem ggX8_debt_X8_writes : GoodIn wsX8_debt wsX8_writes := goodIn_r _ [23, 24, 7, 25, 26, 27, 28, 29, 30, 31, 32, 33, 34, 35, 36, 37, 38, 39, 40, 41, 42, 43, 44, 45, 46, 47, 48, 49, 50, 51, 52, 53, 54, 55, 56, 57, 58, 59, 60, 61, 62, 63, 64, 65] rfl (by decide +kernel)
set_option maxRecDepth 20000 in
theorem gX8_debt_X8_writes : GoodIn wsX8_debt (wsV RX8 174 RX8 yX8_writes wsX8_writes) := goodIn_app (goodIn_of _ (by decide +kernel)) ggX8_debt_X8_writes
theorem dX8_debt_0 : decode cX8_debt 0 = .ok (.aload_n 0, 1) := by decide +kernel
theorem dX8_debt_1 : decode cX8_debt 1 = .ok (.iload_n 1, 1) := by decide +kernel
theorem dX8_debt_2 : decode cX8_debt 2 = .ok (.iload_n 2, 1) := by decide +kernel
theorem dX8_debt_3 : decode cX8_debt 3 = .ok (.invokevirtual 171, 3) := by decide +kernel
theorem dX8_debt_6 : decode cX8_debt 6 = .ok (.ifCond .eq 22, 3) := by decide +kernel
theorem dX8_debt_9 : decode cX8_debt 9 = .ok (.iload_n 3, 1) := by decide +kernel
theorem dX8_debt_10 : decode cX8_debt 10 = .ok (.iconst 0, 1) := by decide +kernel
theorem dX8_debt_11 : decode cX8_debt 11 = .ok (.bipush 11, 2) := by decide +kernel
theorem dX8_debt_13 : decode cX8_debt 13 = .ok (.invokestatic 108, 3) := by decide +kernel
theorem dX8_debt_16 : decode cX8_debt 16 = .ok (.ifCond .eq 12, 3) := by decide +kernel
theorem dX8_debt_19 : decode cX8_debt 19 = .ok (.aload_n 0, 1) := by decide +kernel
theorem dX8_debt_20 : decode cX8_debt 20 = .ok (.iload_n 1, 1) := by decide +kernel
theorem dX8_debt_21 : decode cX8_debt 21 = .ok (.iload_n 3, 1) := by decide +kernel
theorem dX8_debt_22 : decode cX8_debt 22 = .ok (.invokevirtual 178, 3) := by decide +kernel
theorem dX8_debt_25 : decode cX8_debt 25 = .ok (.ifCond .ne 5, 3) := by decide +kernel
theorem dX8_debt_28 : decode cX8_debt 28 = .ok (.iconst (-1), 1) := by decide +kernel
theorem dX8_debt_29 : decode cX8_debt 29 = .ok (.ireturn, 1) := by decide +kernel
theorem dX8_debt_30 : decode cX8_debt 30 = .ok (.aload_n 0, 1) := by decide +kernel
theorem dX8_debt_31 : decode cX8_debt 31 = .ok (.iload_n 1, 1) := by decide +kernel
theorem dX8_debt_32 : decode cX8_debt 32 = .ok (.iload_n 3, 1) := by decide +kernel
theorem dX8_debt_33 : decode cX8_debt 33 = .ok (.invokevirtual 178, 3) := by decide +kernel
theorem dX8_debt_36 : decode cX8_debt 36 = .ok (.istore 4, 2) := by decide +kernel
theorem dX8_debt_38 : decode cX8_debt 38 = .ok (.aload_n 0, 1) := by decide +kernel
theorem dX8_debt_39 : decode cX8_debt 39 = .ok (.iconst 1, 1) := by decide +kernel
theorem dX8_debt_40 : decode cX8_debt 40 = .ok (.iload_n 1, 1) := by decide +kernel
theorem dX8_debt_41 : decode cX8_debt 41 = .ok (.iload_n 2, 1) := by decide +kernel
theorem dX8_debt_42 : decode cX8_debt 42 = .ok (.iload_n 3, 1) := by decide +kernel
theorem dX8_debt_43 : decode cX8_debt 43 = .ok (.iload 4, 2) := by decide +kernel
theorem dX8_debt_45 : decode cX8_debt 45 = .ok (.invokevirtual 174, 3) := by decide +kernel
theorem dX8_debt_48 : decode cX8_debt 48 = .ok (.pop, 1) := by decide +kernel
theorem dX8_debt_49 : decode cX8_debt 49 = .ok (.aload_n 0, 1) := by decide +kernel
theorem dX8_debt_50 : decode cX8_debt 50 = .ok (.getfield 16, 3) := by decide +kernel
theorem dX8_debt_53 : decode cX8_debt 53 = .ok (.bipush 12, 2) := by decide +kernel
theorem dX8_debt_55 : decode cX8_debt 55 = .ok (.iload_n 1, 1) := by decide +kernel
theorem dX8_debt_56 : decode cX8_debt 56 = .ok (.imul, 1) := by decide +kernel
theorem dX8_debt_57 : decode cX8_debt 57 = .ok (.iload_n 3, 1) := by decide +kernel
theorem dX8_debt_58 : decode cX8_debt 58 = .ok (.iadd, 1) := by decide +kernel
theorem dX8_debt_59 : decode cX8_debt 59 = .ok (.iconst 0, 1) := by decide +kernel
theorem dX8_debt_60 : decode cX8_debt 60 = .ok (.iastore, 1) := by decide +kernel
theorem dX8_debt_61 : decode cX8_debt 61 = .ok (.iload 4, 2) := by decide +kernel
theorem dX8_debt_63 : decode cX8_debt 63 = .ok (.ireturn, 1) := by decide +kernel
set_option maxRecDepth 20000 in
set_option maxRecDepth 100000 in
theorem ggX8_report_X8_canWrite : GoodIn wsX8_report wsX8_canWrite := goodIn_r _ [7, 8, 9, 10, 11, 6, 12, 13, 14, 15, 16, 31, 32, 33, 34, 35, 36, 37, 38, 39, 40, 41, 42, 43, 44, 45, 46, 47, 48, 49, 50, 51, 52, 53, 54, 55, 56, 57, 58, 59, 60, 61, 62, 63, 64, 65, 66, 67] rfl (by decide +kernel)
set_option maxRecDepth 20000 in
theorem gX8_report_X8_canWrite : GoodIn wsX8_report (wsV RX8 171 RX8 yX8_canWrite wsX8_canWrite) := goodIn_app (goodIn_of _ (by decide +kernel)) ggX8_report_X8_canWrite
set_option maxRecDepth 20000 in
set_option maxRecDepth 100000 in
theorem ggX8_report_X8_writes : GoodIn wsX8_report wsX8_writes := goodIn_r _ [20, 21, 8, 22, 23, 24, 25, 31, 32, 33, 34, 35, 36, 37, 38, 39, 40, 41, 42, 43, 44, 45, 46, 47, 48, 49, 50, 51, 52, 53, 54, 55, 56, 57, 58, 59, 60, 61, 62, 63, 64, 65, 66, 67] rfl (by decide +kernel)
set_option maxRecDepth 20000 in
theorem gX8_report_X8_writes : GoodIn wsX8_report (wsV RX8 174 RX8 yX8_writes wsX8_writes) := goodIn_app (goodIn_of _ (by decide +kernel)) ggX8_report_X8_writes
set_option maxRecDepth 20000 in
set_option maxRecDepth 100000 in
theorem ggX8_report_X8_stored : GoodIn wsX8_report wsX8_stored := goodIn_r _ [29, 30, 31, 32, 33, 34, 35, 36, 37, 38, 39, 40, 41, 42, 43, 44, 45, 46, 47, 48, 49, 50, 51, 52, 53, 54, 55, 56, 57, 58, 59, 60, 61, 62, 63, 64, 65, 66, 67] rfl (by decide +kernel)
set_option maxRecDepth 20000 in
theorem gX8_report_X8_stored : GoodIn wsX8_report (wsV RX8 130 RX8 yX8_stored wsX8_stored) := goodIn_app (goodIn_of _ (by decide +kernel)) ggX8_report_X8_stored
theorem dX8_report_0 : decode cX8_report 0 = .ok (.aload_n 0, 1) := by decide +kernel
theorem dX8_report_1 : decode cX8_report 1 = .ok (.iload_n 1, 1) := by decide +kernel
theorem dX8_report_2 : decode cX8_report 2 = .ok (.iload_n 2, 1) := by decide +kernel
theorem dX8_report_3 : decode cX8_report 3 = .ok (.invokevirtual 171, 3) := by decide +kernel
theorem dX8_report_6 : decode cX8_report 6 = .ok (.ifCond .ne 5, 3) := by decide +kernel
theorem dX8_report_9 : decode cX8_report 9 = .ok (.iconst (-1), 1) := by decide +kernel
theorem dX8_report_10 : decode cX8_report 10 = .ok (.ireturn, 1) := by decide +kernel
theorem dX8_report_11 : decode cX8_report 11 = .ok (.aload_n 0, 1) := by decide +kernel
theorem dX8_report_12 : decode cX8_report 12 = .ok (.iconst 2, 1) := by decide +kernel
theorem dX8_report_13 : decode cX8_report 13 = .ok (.iload_n 1, 1) := by decide +kernel
theorem dX8_report_14 : decode cX8_report 14 = .ok (.iload_n 2, 1) := by decide +kernel
theorem dX8_report_15 : decode cX8_report 15 = .ok (.iload_n 1, 1) := by decide +kernel
theorem dX8_report_16 : decode cX8_report 16 = .ok (.aload_n 0, 1) := by decide +kernel
theorem dX8_report_17 : decode cX8_report 17 = .ok (.getfield 137, 3) := by decide +kernel
theorem dX8_report_20 : decode cX8_report 20 = .ok (.invokevirtual 174, 3) := by decide +kernel
theorem dX8_report_23 : decode cX8_report 23 = .ok (.istore_n 3, 1) := by decide +kernel
theorem dX8_report_24 : decode cX8_report 24 = .ok (.iconst 0, 1) := by decide +kernel
theorem dX8_report_25 : decode cX8_report 25 = .ok (.istore 4, 2) := by decide +kernel
theorem dX8_report_27 : decode cX8_report 27 = .ok (.iload 4, 2) := by decide +kernel
theorem dX8_report_29 : decode cX8_report 29 = .ok (.bipush 6, 2) := by decide +kernel
theorem dX8_report_31 : decode cX8_report 31 = .ok (.if_icmp .ge 28, 3) := by decide +kernel
theorem dX8_report_34 : decode cX8_report 34 = .ok (.aload_n 0, 1) := by decide +kernel
theorem dX8_report_35 : decode cX8_report 35 = .ok (.getfield 89, 3) := by decide +kernel
theorem dX8_report_38 : decode cX8_report 38 = .ok (.bipush 6, 2) := by decide +kernel
theorem dX8_report_40 : decode cX8_report 40 = .ok (.iload_n 3, 1) := by decide +kernel
theorem dX8_report_41 : decode cX8_report 41 = .ok (.imul, 1) := by decide +kernel
theorem dX8_report_42 : decode cX8_report 42 = .ok (.iload 4, 2) := by decide +kernel
theorem dX8_report_44 : decode cX8_report 44 = .ok (.iadd, 1) := by decide +kernel
theorem dX8_report_45 : decode cX8_report 45 = .ok (.aload_n 0, 1) := by decide +kernel
theorem dX8_report_46 : decode cX8_report 46 = .ok (.iload_n 1, 1) := by decide +kernel
theorem dX8_report_47 : decode cX8_report 47 = .ok (.iload 4, 2) := by decide +kernel
theorem dX8_report_49 : decode cX8_report 49 = .ok (.invokevirtual 130, 3) := by decide +kernel
theorem dX8_report_52 : decode cX8_report 52 = .ok (.iastore, 1) := by decide +kernel
theorem dX8_report_53 : decode cX8_report 53 = .ok (.iinc 4 1, 3) := by decide +kernel
theorem dX8_report_56 : decode cX8_report 56 = .ok (.goto (-29), 3) := by decide +kernel
theorem dX8_report_59 : decode cX8_report 59 = .ok (.iload_n 3, 1) := by decide +kernel
theorem dX8_report_60 : decode cX8_report 60 = .ok (.ireturn, 1) := by decide +kernel
set_option maxRecDepth 20000 in
set_option maxRecDepth 100000 in
theorem ggX8_known_X8_isPost : GoodIn wsX8_known wsX8_isPost := goodIn_r _ [7, 8, 9, 10, 6, 11, 20, 21, 22, 23, 24, 25, 26, 27, 28, 29, 30, 31, 32, 33, 34, 35, 36, 37, 38, 39, 40, 41, 42, 43, 44, 45, 46, 47, 48, 49, 50, 51, 52, 53, 54, 55, 56] rfl (by decide +kernel)
set_option maxRecDepth 20000 in
theorem gX8_known_X8_isPost : GoodIn wsX8_known (wsV RX8 119 RX8 yX8_isPost wsX8_isPost) := goodIn_app (goodIn_of _ (by decide +kernel)) ggX8_known_X8_isPost
set_option maxRecDepth 20000 in
set_option maxRecDepth 100000 in
theorem ggX8_known_X8_isWare : GoodIn wsX8_known wsX8_isWare := goodIn_r _ [14, 9, 10, 6, 11] rfl (by decide +kernel)
set_option maxRecDepth 20000 in
theorem gX8_known_X8_isWare : GoodIn wsX8_known (va_wsS RX8 127 yX8_isWare wsX8_isWare) := goodIn_app (goodIn_of _ (by decide +kernel)) ggX8_known_X8_isWare
set_option maxRecDepth 20000 in
set_option maxRecDepth 100000 in
theorem ggX8_known_X8_stored : GoodIn wsX8_known wsX8_stored := goodIn_r _ [18, 19, 20, 21, 22, 23, 24, 25, 26, 27, 28, 29, 30, 31, 32, 33, 34, 35, 36, 37, 38, 39, 40, 41, 42, 43, 44, 45, 46, 47, 48, 49, 50, 51, 52, 53, 54, 55, 56] rfl (by decide +kernel)
set_option maxRecDepth 20000 in
theorem gX8_known_X8_stored : GoodIn wsX8_known (wsV RX8 130 RX8 yX8_stored wsX8_stored) := goodIn_app (goodIn_of _ (by decide +kernel)) ggX8_known_X8_stored
theorem dX8_known_0 : decode cX8_known 0 = .ok (.aload_n 0, 1) := by decide +kernel
theorem dX8_known_1 : decode cX8_known 1 = .ok (.iload_n 1, 1) := by decide +kernel
theorem dX8_known_2 : decode cX8_known 2 = .ok (.invokevirtual 119, 3) := by decide +kernel
theorem dX8_known_5 : decode cX8_known 5 = .ok (.ifCond .eq 18, 3) := by decide +kernel
theorem dX8_known_8 : decode cX8_known 8 = .ok (.aload_n 0, 1) := by decide +kernel
theorem dX8_known_9 : decode cX8_known 9 = .ok (.iload_n 2, 1) := by decide +kernel
theorem dX8_known_10 : decode cX8_known 10 = .ok (.invokevirtual 119, 3) := by decide +kernel
theorem dX8_known_13 : decode cX8_known 13 = .ok (.ifCond .eq 10, 3) := by decide +kernel
theorem dX8_known_16 : decode cX8_known 16 = .ok (.iload_n 3, 1) := by decide +kernel
theorem dX8_known_17 : decode cX8_known 17 = .ok (.invokestatic 127, 3) := by decide +kernel
theorem dX8_known_20 : decode cX8_known 20 = .ok (.ifCond .ne 5, 3) := by decide +kernel
theorem dX8_known_23 : decode cX8_known 23 = .ok (.iconst (-1), 1) := by decide +kernel
theorem dX8_known_24 : decode cX8_known 24 = .ok (.ireturn, 1) := by decide +kernel
theorem dX8_known_25 : decode cX8_known 25 = .ok (.iload_n 1, 1) := by decide +kernel
theorem dX8_known_26 : decode cX8_known 26 = .ok (.iload_n 2, 1) := by decide +kernel
theorem dX8_known_27 : decode cX8_known 27 = .ok (.if_icmp .ne 10, 3) := by decide +kernel
theorem dX8_known_30 : decode cX8_known 30 = .ok (.aload_n 0, 1) := by decide +kernel
theorem dX8_known_31 : decode cX8_known 31 = .ok (.iload_n 1, 1) := by decide +kernel
theorem dX8_known_32 : decode cX8_known 32 = .ok (.iload_n 3, 1) := by decide +kernel
theorem dX8_known_33 : decode cX8_known 33 = .ok (.invokevirtual 130, 3) := by decide +kernel
theorem dX8_known_36 : decode cX8_known 36 = .ok (.ireturn, 1) := by decide +kernel
theorem dX8_known_37 : decode cX8_known 37 = .ok (.aload_n 0, 1) := by decide +kernel
theorem dX8_known_38 : decode cX8_known 38 = .ok (.getfield 92, 3) := by decide +kernel
theorem dX8_known_41 : decode cX8_known 41 = .ok (.bipush 8, 2) := by decide +kernel
theorem dX8_known_43 : decode cX8_known 43 = .ok (.iload_n 1, 1) := by decide +kernel
theorem dX8_known_44 : decode cX8_known 44 = .ok (.imul, 1) := by decide +kernel
theorem dX8_known_45 : decode cX8_known 45 = .ok (.iload_n 2, 1) := by decide +kernel
theorem dX8_known_46 : decode cX8_known 46 = .ok (.iadd, 1) := by decide +kernel
theorem dX8_known_47 : decode cX8_known 47 = .ok (.iaload, 1) := by decide +kernel
theorem dX8_known_48 : decode cX8_known 48 = .ok (.istore 4, 2) := by decide +kernel
theorem dX8_known_50 : decode cX8_known 50 = .ok (.iload 4, 2) := by decide +kernel
theorem dX8_known_52 : decode cX8_known 52 = .ok (.iconst (-1), 1) := by decide +kernel
theorem dX8_known_53 : decode cX8_known 53 = .ok (.if_icmp .ne 7, 3) := by decide +kernel
theorem dX8_known_56 : decode cX8_known 56 = .ok (.iconst (-1), 1) := by decide +kernel
theorem dX8_known_57 : decode cX8_known 57 = .ok (.goto 15, 3) := by decide +kernel
theorem dX8_known_60 : decode cX8_known 60 = .ok (.aload_n 0, 1) := by decide +kernel
theorem dX8_known_61 : decode cX8_known 61 = .ok (.getfield 89, 3) := by decide +kernel
theorem dX8_known_64 : decode cX8_known 64 = .ok (.bipush 6, 2) := by decide +kernel
theorem dX8_known_66 : decode cX8_known 66 = .ok (.iload 4, 2) := by decide +kernel
theorem dX8_known_68 : decode cX8_known 68 = .ok (.imul, 1) := by decide +kernel
theorem dX8_known_69 : decode cX8_known 69 = .ok (.iload_n 3, 1) := by decide +kernel
theorem dX8_known_70 : decode cX8_known 70 = .ok (.iadd, 1) := by decide +kernel
theorem dX8_known_71 : decode cX8_known 71 = .ok (.iaload, 1) := by decide +kernel
theorem dX8_known_72 : decode cX8_known 72 = .ok (.ireturn, 1) := by decide +kernel
set_option maxRecDepth 20000 in
set_option maxRecDepth 100000 in
theorem ggX8_knownDay_X8_isPost : GoodIn wsX8_knownDay wsX8_isPost := goodIn_r _ [8, 9, 10, 11, 7, 12, 13, 14, 15, 16, 17, 18, 19, 20, 21, 22, 23, 24, 25, 26, 27, 28, 29, 30, 31, 32, 33, 34, 35, 36, 37, 38, 39, 40, 41, 42, 43, 44, 45, 46, 47, 48, 49] rfl (by decide +kernel)
set_option maxRecDepth 20000 in
theorem gX8_knownDay_X8_isPost : GoodIn wsX8_knownDay (wsV RX8 119 RX8 yX8_isPost wsX8_isPost) := goodIn_app (goodIn_of _ (by decide +kernel)) ggX8_knownDay_X8_isPost
theorem dX8_knownDay_0 : decode cX8_knownDay 0 = .ok (.aload_n 0, 1) := by decide +kernel
theorem dX8_knownDay_1 : decode cX8_knownDay 1 = .ok (.iload_n 1, 1) := by decide +kernel
theorem dX8_knownDay_2 : decode cX8_knownDay 2 = .ok (.invokevirtual 119, 3) := by decide +kernel
theorem dX8_knownDay_5 : decode cX8_knownDay 5 = .ok (.ifCond .eq 11, 3) := by decide +kernel
theorem dX8_knownDay_8 : decode cX8_knownDay 8 = .ok (.aload_n 0, 1) := by decide +kernel
theorem dX8_knownDay_9 : decode cX8_knownDay 9 = .ok (.iload_n 2, 1) := by decide +kernel
theorem dX8_knownDay_10 : decode cX8_knownDay 10 = .ok (.invokevirtual 119, 3) := by decide +kernel
theorem dX8_knownDay_13 : decode cX8_knownDay 13 = .ok (.ifCond .ne 5, 3) := by decide +kernel
theorem dX8_knownDay_16 : decode cX8_knownDay 16 = .ok (.iconst (-1), 1) := by decide +kernel
theorem dX8_knownDay_17 : decode cX8_knownDay 17 = .ok (.ireturn, 1) := by decide +kernel
theorem dX8_knownDay_18 : decode cX8_knownDay 18 = .ok (.iload_n 1, 1) := by decide +kernel
theorem dX8_knownDay_19 : decode cX8_knownDay 19 = .ok (.iload_n 2, 1) := by decide +kernel
theorem dX8_knownDay_20 : decode cX8_knownDay 20 = .ok (.if_icmp .ne 8, 3) := by decide +kernel
theorem dX8_knownDay_23 : decode cX8_knownDay 23 = .ok (.aload_n 0, 1) := by decide +kernel
theorem dX8_knownDay_24 : decode cX8_knownDay 24 = .ok (.getfield 137, 3) := by decide +kernel
theorem dX8_knownDay_27 : decode cX8_knownDay 27 = .ok (.ireturn, 1) := by decide +kernel
theorem dX8_knownDay_28 : decode cX8_knownDay 28 = .ok (.aload_n 0, 1) := by decide +kernel
theorem dX8_knownDay_29 : decode cX8_knownDay 29 = .ok (.getfield 92, 3) := by decide +kernel
theorem dX8_knownDay_32 : decode cX8_knownDay 32 = .ok (.bipush 8, 2) := by decide +kernel
theorem dX8_knownDay_34 : decode cX8_knownDay 34 = .ok (.iload_n 1, 1) := by decide +kernel
theorem dX8_knownDay_35 : decode cX8_knownDay 35 = .ok (.imul, 1) := by decide +kernel
theorem dX8_knownDay_36 : decode cX8_knownDay 36 = .ok (.iload_n 2, 1) := by decide +kernel
theorem dX8_knownDay_37 : decode cX8_knownDay 37 = .ok (.iadd, 1) := by decide +kernel
theorem dX8_knownDay_38 : decode cX8_knownDay 38 = .ok (.iaload, 1) := by decide +kernel
theorem dX8_knownDay_39 : decode cX8_knownDay 39 = .ok (.istore_n 3, 1) := by decide +kernel
theorem dX8_knownDay_40 : decode cX8_knownDay 40 = .ok (.iload_n 3, 1) := by decide +kernel
theorem dX8_knownDay_41 : decode cX8_knownDay 41 = .ok (.iconst (-1), 1) := by decide +kernel
theorem dX8_knownDay_42 : decode cX8_knownDay 42 = .ok (.if_icmp .ne 7, 3) := by decide +kernel
theorem dX8_knownDay_45 : decode cX8_knownDay 45 = .ok (.iconst (-1), 1) := by decide +kernel
theorem dX8_knownDay_46 : decode cX8_knownDay 46 = .ok (.goto 9, 3) := by decide +kernel
theorem dX8_knownDay_49 : decode cX8_knownDay 49 = .ok (.aload_n 0, 1) := by decide +kernel
theorem dX8_knownDay_50 : decode cX8_knownDay 50 = .ok (.getfield 86, 3) := by decide +kernel
theorem dX8_knownDay_53 : decode cX8_knownDay 53 = .ok (.iload_n 3, 1) := by decide +kernel
theorem dX8_knownDay_54 : decode cX8_knownDay 54 = .ok (.iaload, 1) := by decide +kernel
theorem dX8_knownDay_55 : decode cX8_knownDay 55 = .ok (.ireturn, 1) := by decide +kernel
set_option maxRecDepth 20000 in
set_option maxRecDepth 100000 in
theorem ggX8_next_X8_isPost : GoodIn wsX8_next wsX8_isPost := goodIn_r _ [10, 5, 11, 12, 9, 13, 18, 19, 20, 21, 22, 23, 24, 25, 26, 27, 28, 29, 30, 31, 32, 33, 34, 35, 36, 37, 38, 39, 40, 41, 42, 43, 44, 45, 46, 47, 48, 49, 50, 51, 52, 53, 54] rfl (by decide +kernel)
set_option maxRecDepth 20000 in
theorem gX8_next_X8_isPost : GoodIn wsX8_next (wsV RX8 119 RX8 yX8_isPost wsX8_isPost) := goodIn_app (goodIn_of _ (by decide +kernel)) ggX8_next_X8_isPost
set_option maxRecDepth 20000 in
set_option maxRecDepth 100000 in
theorem ggX8_next_X8_between : GoodIn wsX8_next wsX8_between := goodIn_r _ [17, 2, 3, 4, 18, 19, 20, 21, 22, 23, 24, 25, 26, 27, 28, 29, 30, 31, 32, 33, 34, 35, 36, 37, 38, 39, 40, 41, 42, 43, 44, 45, 46, 47, 48, 49, 50, 51, 52, 53, 54] rfl (by decide +kernel)
set_option maxRecDepth 20000 in
theorem gX8_next_X8_between : GoodIn wsX8_next (wsV RX8 123 RX8 yX8_between wsX8_between) := goodIn_app (goodIn_of _ (by decide +kernel)) ggX8_next_X8_between
theorem dX8_next_0 : decode cX8_next 0 = .ok (.aload_n 0, 1) := by decide +kernel
theorem dX8_next_1 : decode cX8_next 1 = .ok (.iload_n 1, 1) := by decide +kernel
theorem dX8_next_2 : decode cX8_next 2 = .ok (.invokevirtual 119, 3) := by decide +kernel
theorem dX8_next_5 : decode cX8_next 5 = .ok (.ifCond .eq 16, 3) := by decide +kernel
theorem dX8_next_8 : decode cX8_next 8 = .ok (.aload_n 0, 1) := by decide +kernel
theorem dX8_next_9 : decode cX8_next 9 = .ok (.iload_n 2, 1) := by decide +kernel
theorem dX8_next_10 : decode cX8_next 10 = .ok (.invokevirtual 119, 3) := by decide +kernel
theorem dX8_next_13 : decode cX8_next 13 = .ok (.ifCond .eq 8, 3) := by decide +kernel
theorem dX8_next_16 : decode cX8_next 16 = .ok (.iload_n 1, 1) := by decide +kernel
theorem dX8_next_17 : decode cX8_next 17 = .ok (.iload_n 2, 1) := by decide +kernel
theorem dX8_next_18 : decode cX8_next 18 = .ok (.if_icmp .ne 5, 3) := by decide +kernel
theorem dX8_next_21 : decode cX8_next 21 = .ok (.iconst (-1), 1) := by decide +kernel
theorem dX8_next_22 : decode cX8_next 22 = .ok (.ireturn, 1) := by decide +kernel
theorem dX8_next_23 : decode cX8_next 23 = .ok (.iconst 0, 1) := by decide +kernel
theorem dX8_next_24 : decode cX8_next 24 = .ok (.istore_n 3, 1) := by decide +kernel
theorem dX8_next_25 : decode cX8_next 25 = .ok (.iload_n 3, 1) := by decide +kernel
theorem dX8_next_26 : decode cX8_next 26 = .ok (.bipush 8, 2) := by decide +kernel
theorem dX8_next_28 : decode cX8_next 28 = .ok (.if_icmp .ge 26, 3) := by decide +kernel
theorem dX8_next_31 : decode cX8_next 31 = .ok (.aload_n 0, 1) := by decide +kernel
theorem dX8_next_32 : decode cX8_next 32 = .ok (.getfield 101, 3) := by decide +kernel
theorem dX8_next_35 : decode cX8_next 35 = .ok (.iload_n 3, 1) := by decide +kernel
theorem dX8_next_36 : decode cX8_next 36 = .ok (.iload_n 3, 1) := by decide +kernel
theorem dX8_next_37 : decode cX8_next 37 = .ok (.iload_n 2, 1) := by decide +kernel
theorem dX8_next_38 : decode cX8_next 38 = .ok (.if_icmp .ne 7, 3) := by decide +kernel
theorem dX8_next_41 : decode cX8_next 41 = .ok (.iconst 0, 1) := by decide +kernel
theorem dX8_next_42 : decode cX8_next 42 = .ok (.goto 5, 3) := by decide +kernel
theorem dX8_next_45 : decode cX8_next 45 = .ok (.bipush 100, 2) := by decide +kernel
theorem dX8_next_47 : decode cX8_next 47 = .ok (.iastore, 1) := by decide +kernel
theorem dX8_next_48 : decode cX8_next 48 = .ok (.iinc 3 1, 3) := by decide +kernel
theorem dX8_next_51 : decode cX8_next 51 = .ok (.goto (-26), 3) := by decide +kernel
theorem dX8_next_54 : decode cX8_next 54 = .ok (.iconst 0, 1) := by decide +kernel
theorem dX8_next_55 : decode cX8_next 55 = .ok (.istore_n 3, 1) := by decide +kernel
theorem dX8_next_56 : decode cX8_next 56 = .ok (.iload_n 3, 1) := by decide +kernel
theorem dX8_next_57 : decode cX8_next 57 = .ok (.bipush 8, 2) := by decide +kernel
theorem dX8_next_59 : decode cX8_next 59 = .ok (.if_icmp .ge 137, 3) := by decide +kernel
theorem dX8_next_62 : decode cX8_next 62 = .ok (.iconst 0, 1) := by decide +kernel
theorem dX8_next_63 : decode cX8_next 63 = .ok (.istore 4, 2) := by decide +kernel
theorem dX8_next_65 : decode cX8_next 65 = .ok (.iload 4, 2) := by decide +kernel
theorem dX8_next_67 : decode cX8_next 67 = .ok (.aload_n 0, 1) := by decide +kernel
theorem dX8_next_68 : decode cX8_next 68 = .ok (.getfield 115, 3) := by decide +kernel
theorem dX8_next_71 : decode cX8_next 71 = .ok (.if_icmp .ge 119, 3) := by decide +kernel
theorem dX8_next_74 : decode cX8_next 74 = .ok (.aload_n 0, 1) := by decide +kernel
theorem dX8_next_75 : decode cX8_next 75 = .ok (.getfield 101, 3) := by decide +kernel
theorem dX8_next_78 : decode cX8_next 78 = .ok (.aload_n 0, 1) := by decide +kernel
theorem dX8_next_79 : decode cX8_next 79 = .ok (.getfield 19, 3) := by decide +kernel
theorem dX8_next_82 : decode cX8_next 82 = .ok (.iload 4, 2) := by decide +kernel
theorem dX8_next_84 : decode cX8_next 84 = .ok (.iaload, 1) := by decide +kernel
theorem dX8_next_85 : decode cX8_next 85 = .ok (.iaload, 1) := by decide +kernel
theorem dX8_next_86 : decode cX8_next 86 = .ok (.iconst 1, 1) := by decide +kernel
theorem dX8_next_87 : decode cX8_next 87 = .ok (.iadd, 1) := by decide +kernel
theorem dX8_next_88 : decode cX8_next 88 = .ok (.aload_n 0, 1) := by decide +kernel
theorem dX8_next_89 : decode cX8_next 89 = .ok (.getfield 101, 3) := by decide +kernel
theorem dX8_next_92 : decode cX8_next 92 = .ok (.aload_n 0, 1) := by decide +kernel
theorem dX8_next_93 : decode cX8_next 93 = .ok (.getfield 22, 3) := by decide +kernel
theorem dX8_next_96 : decode cX8_next 96 = .ok (.iload 4, 2) := by decide +kernel
theorem dX8_next_98 : decode cX8_next 98 = .ok (.iaload, 1) := by decide +kernel
theorem dX8_next_99 : decode cX8_next 99 = .ok (.iaload, 1) := by decide +kernel
theorem dX8_next_100 : decode cX8_next 100 = .ok (.if_icmp .ge 29, 3) := by decide +kernel
theorem dX8_next_103 : decode cX8_next 103 = .ok (.aload_n 0, 1) := by decide +kernel
theorem dX8_next_104 : decode cX8_next 104 = .ok (.getfield 101, 3) := by decide +kernel
theorem dX8_next_107 : decode cX8_next 107 = .ok (.aload_n 0, 1) := by decide +kernel
theorem dX8_next_108 : decode cX8_next 108 = .ok (.getfield 22, 3) := by decide +kernel
theorem dX8_next_111 : decode cX8_next 111 = .ok (.iload 4, 2) := by decide +kernel
theorem dX8_next_113 : decode cX8_next 113 = .ok (.iaload, 1) := by decide +kernel
theorem dX8_next_114 : decode cX8_next 114 = .ok (.aload_n 0, 1) := by decide +kernel
theorem dX8_next_115 : decode cX8_next 115 = .ok (.getfield 101, 3) := by decide +kernel
theorem dX8_next_118 : decode cX8_next 118 = .ok (.aload_n 0, 1) := by decide +kernel
theorem dX8_next_119 : decode cX8_next 119 = .ok (.getfield 19, 3) := by decide +kernel
theorem dX8_next_122 : decode cX8_next 122 = .ok (.iload 4, 2) := by decide +kernel
theorem dX8_next_124 : decode cX8_next 124 = .ok (.iaload, 1) := by decide +kernel
theorem dX8_next_125 : decode cX8_next 125 = .ok (.iaload, 1) := by decide +kernel
theorem dX8_next_126 : decode cX8_next 126 = .ok (.iconst 1, 1) := by decide +kernel
theorem dX8_next_127 : decode cX8_next 127 = .ok (.iadd, 1) := by decide +kernel
theorem dX8_next_128 : decode cX8_next 128 = .ok (.iastore, 1) := by decide +kernel
theorem dX8_next_129 : decode cX8_next 129 = .ok (.aload_n 0, 1) := by decide +kernel
theorem dX8_next_130 : decode cX8_next 130 = .ok (.getfield 101, 3) := by decide +kernel
theorem dX8_next_133 : decode cX8_next 133 = .ok (.aload_n 0, 1) := by decide +kernel
theorem dX8_next_134 : decode cX8_next 134 = .ok (.getfield 22, 3) := by decide +kernel
theorem dX8_next_137 : decode cX8_next 137 = .ok (.iload 4, 2) := by decide +kernel
theorem dX8_next_139 : decode cX8_next 139 = .ok (.iaload, 1) := by decide +kernel
theorem dX8_next_140 : decode cX8_next 140 = .ok (.iaload, 1) := by decide +kernel
theorem dX8_next_141 : decode cX8_next 141 = .ok (.iconst 1, 1) := by decide +kernel
theorem dX8_next_142 : decode cX8_next 142 = .ok (.iadd, 1) := by decide +kernel
theorem dX8_next_143 : decode cX8_next 143 = .ok (.aload_n 0, 1) := by decide +kernel
theorem dX8_next_144 : decode cX8_next 144 = .ok (.getfield 101, 3) := by decide +kernel
theorem dX8_next_147 : decode cX8_next 147 = .ok (.aload_n 0, 1) := by decide +kernel
theorem dX8_next_148 : decode cX8_next 148 = .ok (.getfield 19, 3) := by decide +kernel
theorem dX8_next_151 : decode cX8_next 151 = .ok (.iload 4, 2) := by decide +kernel
theorem dX8_next_153 : decode cX8_next 153 = .ok (.iaload, 1) := by decide +kernel
theorem dX8_next_154 : decode cX8_next 154 = .ok (.iaload, 1) := by decide +kernel
theorem dX8_next_155 : decode cX8_next 155 = .ok (.if_icmp .ge 29, 3) := by decide +kernel
theorem dX8_next_158 : decode cX8_next 158 = .ok (.aload_n 0, 1) := by decide +kernel
theorem dX8_next_159 : decode cX8_next 159 = .ok (.getfield 101, 3) := by decide +kernel
theorem dX8_next_162 : decode cX8_next 162 = .ok (.aload_n 0, 1) := by decide +kernel
theorem dX8_next_163 : decode cX8_next 163 = .ok (.getfield 19, 3) := by decide +kernel
theorem dX8_next_166 : decode cX8_next 166 = .ok (.iload 4, 2) := by decide +kernel
theorem dX8_next_168 : decode cX8_next 168 = .ok (.iaload, 1) := by decide +kernel
theorem dX8_next_169 : decode cX8_next 169 = .ok (.aload_n 0, 1) := by decide +kernel
theorem dX8_next_170 : decode cX8_next 170 = .ok (.getfield 101, 3) := by decide +kernel
theorem dX8_next_173 : decode cX8_next 173 = .ok (.aload_n 0, 1) := by decide +kernel
theorem dX8_next_174 : decode cX8_next 174 = .ok (.getfield 22, 3) := by decide +kernel
theorem dX8_next_177 : decode cX8_next 177 = .ok (.iload 4, 2) := by decide +kernel
theorem dX8_next_179 : decode cX8_next 179 = .ok (.iaload, 1) := by decide +kernel
theorem dX8_next_180 : decode cX8_next 180 = .ok (.iaload, 1) := by decide +kernel
theorem dX8_next_181 : decode cX8_next 181 = .ok (.iconst 1, 1) := by decide +kernel
theorem dX8_next_182 : decode cX8_next 182 = .ok (.iadd, 1) := by decide +kernel
theorem dX8_next_183 : decode cX8_next 183 = .ok (.iastore, 1) := by decide +kernel
theorem dX8_next_184 : decode cX8_next 184 = .ok (.iinc 4 1, 3) := by decide +kernel
theorem dX8_next_187 : decode cX8_next 187 = .ok (.goto (-122), 3) := by decide +kernel
theorem dX8_next_190 : decode cX8_next 190 = .ok (.iinc 3 1, 3) := by decide +kernel
theorem dX8_next_193 : decode cX8_next 193 = .ok (.goto (-137), 3) := by decide +kernel
theorem dX8_next_196 : decode cX8_next 196 = .ok (.iconst (-1), 1) := by decide +kernel
theorem dX8_next_197 : decode cX8_next 197 = .ok (.istore_n 3, 1) := by decide +kernel
theorem dX8_next_198 : decode cX8_next 198 = .ok (.iconst 0, 1) := by decide +kernel
theorem dX8_next_199 : decode cX8_next 199 = .ok (.istore 4, 2) := by decide +kernel
theorem dX8_next_201 : decode cX8_next 201 = .ok (.iload 4, 2) := by decide +kernel
theorem dX8_next_203 : decode cX8_next 203 = .ok (.aload_n 0, 1) := by decide +kernel
theorem dX8_next_204 : decode cX8_next 204 = .ok (.getfield 104, 3) := by decide +kernel
theorem dX8_next_207 : decode cX8_next 207 = .ok (.if_icmp .ge 56, 3) := by decide +kernel
theorem dX8_next_210 : decode cX8_next 210 = .ok (.aload_n 0, 1) := by decide +kernel
theorem dX8_next_211 : decode cX8_next 211 = .ok (.iload_n 1, 1) := by decide +kernel
theorem dX8_next_212 : decode cX8_next 212 = .ok (.iload 4, 2) := by decide +kernel
theorem dX8_next_214 : decode cX8_next 214 = .ok (.invokevirtual 123, 3) := by decide +kernel
theorem dX8_next_217 : decode cX8_next 217 = .ok (.iconst (-1), 1) := by decide +kernel
theorem dX8_next_218 : decode cX8_next 218 = .ok (.if_icmp .eq 39, 3) := by decide +kernel
theorem dX8_next_221 : decode cX8_next 221 = .ok (.aload_n 0, 1) := by decide +kernel
theorem dX8_next_222 : decode cX8_next 222 = .ok (.getfield 101, 3) := by decide +kernel
theorem dX8_next_225 : decode cX8_next 225 = .ok (.iload 4, 2) := by decide +kernel
theorem dX8_next_227 : decode cX8_next 227 = .ok (.iaload, 1) := by decide +kernel
theorem dX8_next_228 : decode cX8_next 228 = .ok (.bipush 100, 2) := by decide +kernel
theorem dX8_next_230 : decode cX8_next 230 = .ok (.if_icmp .ge 27, 3) := by decide +kernel
theorem dX8_next_233 : decode cX8_next 233 = .ok (.iload_n 3, 1) := by decide +kernel
theorem dX8_next_234 : decode cX8_next 234 = .ok (.iconst (-1), 1) := by decide +kernel
theorem dX8_next_235 : decode cX8_next 235 = .ok (.if_icmp .eq 19, 3) := by decide +kernel
theorem dX8_next_238 : decode cX8_next 238 = .ok (.aload_n 0, 1) := by decide +kernel
theorem dX8_next_239 : decode cX8_next 239 = .ok (.getfield 101, 3) := by decide +kernel
theorem dX8_next_242 : decode cX8_next 242 = .ok (.iload 4, 2) := by decide +kernel
theorem dX8_next_244 : decode cX8_next 244 = .ok (.iaload, 1) := by decide +kernel
theorem dX8_next_245 : decode cX8_next 245 = .ok (.aload_n 0, 1) := by decide +kernel
theorem dX8_next_246 : decode cX8_next 246 = .ok (.getfield 101, 3) := by decide +kernel
theorem dX8_next_249 : decode cX8_next 249 = .ok (.iload_n 3, 1) := by decide +kernel
theorem dX8_next_250 : decode cX8_next 250 = .ok (.iaload, 1) := by decide +kernel
theorem dX8_next_251 : decode cX8_next 251 = .ok (.if_icmp .ge 6, 3) := by decide +kernel
theorem dX8_next_254 : decode cX8_next 254 = .ok (.iload 4, 2) := by decide +kernel
theorem dX8_next_256 : decode cX8_next 256 = .ok (.istore_n 3, 1) := by decide +kernel
theorem dX8_next_257 : decode cX8_next 257 = .ok (.iinc 4 1, 3) := by decide +kernel
theorem dX8_next_260 : decode cX8_next 260 = .ok (.goto (-59), 3) := by decide +kernel
theorem dX8_next_263 : decode cX8_next 263 = .ok (.iload_n 3, 1) := by decide +kernel
theorem dX8_next_264 : decode cX8_next 264 = .ok (.ireturn, 1) := by decide +kernel
set_option maxRecDepth 20000 in
set_option maxRecDepth 100000 in
theorem ggX8_want_X8_isWare : GoodIn wsX8_want wsX8_isWare := goodIn_r _ [5, 6, 7, 4, 8] rfl (by decide +kernel)
set_option maxRecDepth 20000 in
theorem gX8_want_X8_isWare : GoodIn wsX8_want (va_wsS RX8 127 yX8_isWare wsX8_isWare) := goodIn_app (goodIn_of _ (by decide +kernel)) ggX8_want_X8_isWare
set_option maxRecDepth 20000 in
set_option maxRecDepth 100000 in
theorem ggX8_want_X8_in : GoodIn wsX8_want wsX8_in := goodIn_r _ [8] rfl (by decide +kernel)
set_option maxRecDepth 20000 in
theorem gX8_want_X8_in : GoodIn wsX8_want (va_wsS RX8 108 yX8_in wsX8_in) := goodIn_app (goodIn_of _ (by decide +kernel)) ggX8_want_X8_in
theorem dX8_want_0 : decode cX8_want 0 = .ok (.iload_n 1, 1) := by decide +kernel
theorem dX8_want_1 : decode cX8_want 1 = .ok (.invokestatic 127, 3) := by decide +kernel
theorem dX8_want_4 : decode cX8_want 4 = .ok (.ifCond .eq 24, 3) := by decide +kernel
theorem dX8_want_7 : decode cX8_want 7 = .ok (.iload_n 2, 1) := by decide +kernel
theorem dX8_want_8 : decode cX8_want 8 = .ok (.iconst 0, 1) := by decide +kernel
theorem dX8_want_9 : decode cX8_want 9 = .ok (.bipush 20, 2) := by decide +kernel
theorem dX8_want_11 : decode cX8_want 11 = .ok (.invokestatic 108, 3) := by decide +kernel
theorem dX8_want_14 : decode cX8_want 14 = .ok (.ifCond .eq 14, 3) := by decide +kernel
theorem dX8_want_17 : decode cX8_want 17 = .ok (.iload_n 3, 1) := by decide +kernel
theorem dX8_want_18 : decode cX8_want 18 = .ok (.iconst 0, 1) := by decide +kernel
theorem dX8_want_19 : decode cX8_want 19 = .ok (.sipush 1000, 3) := by decide +kernel
theorem dX8_want_22 : decode cX8_want 22 = .ok (.invokestatic 108, 3) := by decide +kernel
theorem dX8_want_25 : decode cX8_want 25 = .ok (.ifCond .ne 5, 3) := by decide +kernel
theorem dX8_want_28 : decode cX8_want 28 = .ok (.iconst 0, 1) := by decide +kernel
theorem dX8_want_29 : decode cX8_want 29 = .ok (.ireturn, 1) := by decide +kernel
theorem dX8_want_30 : decode cX8_want 30 = .ok (.aload_n 0, 1) := by decide +kernel
theorem dX8_want_31 : decode cX8_want 31 = .ok (.getfield 95, 3) := by decide +kernel
theorem dX8_want_34 : decode cX8_want 34 = .ok (.bipush 21, 2) := by decide +kernel
theorem dX8_want_36 : decode cX8_want 36 = .ok (.iload_n 1, 1) := by decide +kernel
theorem dX8_want_37 : decode cX8_want 37 = .ok (.imul, 1) := by decide +kernel
theorem dX8_want_38 : decode cX8_want 38 = .ok (.iload_n 2, 1) := by decide +kernel
theorem dX8_want_39 : decode cX8_want 39 = .ok (.iadd, 1) := by decide +kernel
theorem dX8_want_40 : decode cX8_want 40 = .ok (.iload_n 3, 1) := by decide +kernel
theorem dX8_want_41 : decode cX8_want 41 = .ok (.iastore, 1) := by decide +kernel
theorem dX8_want_42 : decode cX8_want 42 = .ok (.iconst 1, 1) := by decide +kernel
theorem dX8_want_43 : decode cX8_want 43 = .ok (.ireturn, 1) := by decide +kernel
set_option maxRecDepth 20000 in
set_option maxRecDepth 100000 in
theorem ggX8_cost_X8_isPost : GoodIn wsX8_cost wsX8_isPost := goodIn_r _ [6, 7, 8, 9, 5, 10, 19, 20, 21, 22, 23, 24, 25, 26, 27, 28, 29, 30, 31, 32, 33, 34, 35, 36, 37, 38, 39, 40, 41, 42, 43, 44, 45, 46, 47, 48, 49, 50, 51, 52, 53, 54, 55] rfl (by decide +kernel)
set_option maxRecDepth 20000 in
theorem gX8_cost_X8_isPost : GoodIn wsX8_cost (wsV RX8 119 RX8 yX8_isPost wsX8_isPost) := goodIn_app (goodIn_of _ (by decide +kernel)) ggX8_cost_X8_isPost
set_option maxRecDepth 20000 in
set_option maxRecDepth 100000 in
theorem ggX8_cost_X8_isWare : GoodIn wsX8_cost wsX8_isWare := goodIn_r _ [13, 8, 9, 5, 10] rfl (by decide +kernel)
set_option maxRecDepth 20000 in
theorem gX8_cost_X8_isWare : GoodIn wsX8_cost (va_wsS RX8 127 yX8_isWare wsX8_isWare) := goodIn_app (goodIn_of _ (by decide +kernel)) ggX8_cost_X8_isWare
set_option maxRecDepth 20000 in
set_option maxRecDepth 100000 in
theorem ggX8_cost_X8_in : GoodIn wsX8_cost wsX8_in := goodIn_r _ [10] rfl (by decide +kernel)
set_option maxRecDepth 20000 in
theorem gX8_cost_X8_in : GoodIn wsX8_cost (va_wsS RX8 108 yX8_in wsX8_in) := goodIn_app (goodIn_of _ (by decide +kernel)) ggX8_cost_X8_in
set_option maxRecDepth 20000 in
set_option maxRecDepth 100000 in
theorem ggX8_cost_X8_stored : GoodIn wsX8_cost wsX8_stored := goodIn_r _ [17, 18, 19, 20, 21, 22, 23, 24, 25, 26, 27, 28, 29, 30, 31, 32, 33, 34, 35, 36, 37, 38, 39, 40, 41, 42, 43, 44, 45, 46, 47, 48, 49, 50, 51, 52, 53, 54, 55] rfl (by decide +kernel)
set_option maxRecDepth 20000 in
theorem gX8_cost_X8_stored : GoodIn wsX8_cost (wsV RX8 130 RX8 yX8_stored wsX8_stored) := goodIn_app (goodIn_of _ (by decide +kernel)) ggX8_cost_X8_stored
theorem dX8_cost_0 : decode cX8_cost 0 = .ok (.aload_n 0, 1) := by decide +kernel
theorem dX8_cost_1 : decode cX8_cost 1 = .ok (.iload_n 1, 1) := by decide +kernel
theorem dX8_cost_2 : decode cX8_cost 2 = .ok (.invokevirtual 119, 3) := by decide +kernel
theorem dX8_cost_5 : decode cX8_cost 5 = .ok (.ifCond .eq 42, 3) := by decide +kernel
theorem dX8_cost_8 : decode cX8_cost 8 = .ok (.iload_n 2, 1) := by decide +kernel
theorem dX8_cost_9 : decode cX8_cost 9 = .ok (.invokestatic 127, 3) := by decide +kernel
theorem dX8_cost_12 : decode cX8_cost 12 = .ok (.ifCond .eq 35, 3) := by decide +kernel
theorem dX8_cost_15 : decode cX8_cost 15 = .ok (.iload_n 3, 1) := by decide +kernel
theorem dX8_cost_16 : decode cX8_cost 16 = .ok (.iconst 0, 1) := by decide +kernel
theorem dX8_cost_17 : decode cX8_cost 17 = .ok (.bipush 100, 2) := by decide +kernel
theorem dX8_cost_19 : decode cX8_cost 19 = .ok (.invokestatic 108, 3) := by decide +kernel
theorem dX8_cost_22 : decode cX8_cost 22 = .ok (.ifCond .eq 25, 3) := by decide +kernel
theorem dX8_cost_25 : decode cX8_cost 25 = .ok (.iload 4, 2) := by decide +kernel
theorem dX8_cost_27 : decode cX8_cost 27 = .ok (.iconst 0, 1) := by decide +kernel
theorem dX8_cost_28 : decode cX8_cost 28 = .ok (.bipush 100, 2) := by decide +kernel
theorem dX8_cost_30 : decode cX8_cost 30 = .ok (.invokestatic 108, 3) := by decide +kernel
theorem dX8_cost_33 : decode cX8_cost 33 = .ok (.ifCond .eq 14, 3) := by decide +kernel
theorem dX8_cost_36 : decode cX8_cost 36 = .ok (.iload 5, 2) := by decide +kernel
theorem dX8_cost_38 : decode cX8_cost 38 = .ok (.iconst 0, 1) := by decide +kernel
theorem dX8_cost_39 : decode cX8_cost 39 = .ok (.bipush 20, 2) := by decide +kernel
theorem dX8_cost_41 : decode cX8_cost 41 = .ok (.invokestatic 108, 3) := by decide +kernel
theorem dX8_cost_44 : decode cX8_cost 44 = .ok (.ifCond .ne 5, 3) := by decide +kernel
theorem dX8_cost_47 : decode cX8_cost 47 = .ok (.iconst (-1), 1) := by decide +kernel
theorem dX8_cost_48 : decode cX8_cost 48 = .ok (.ireturn, 1) := by decide +kernel
theorem dX8_cost_49 : decode cX8_cost 49 = .ok (.iconst 0, 1) := by decide +kernel
theorem dX8_cost_50 : decode cX8_cost 50 = .ok (.istore 6, 2) := by decide +kernel
theorem dX8_cost_52 : decode cX8_cost 52 = .ok (.iconst 0, 1) := by decide +kernel
theorem dX8_cost_53 : decode cX8_cost 53 = .ok (.istore 7, 2) := by decide +kernel
theorem dX8_cost_55 : decode cX8_cost 55 = .ok (.iload 7, 2) := by decide +kernel
theorem dX8_cost_57 : decode cX8_cost 57 = .ok (.bipush 21, 2) := by decide +kernel
theorem dX8_cost_59 : decode cX8_cost 59 = .ok (.if_icmp .ge 26, 3) := by decide +kernel
theorem dX8_cost_62 : decode cX8_cost 62 = .ok (.iload 6, 2) := by decide +kernel
theorem dX8_cost_64 : decode cX8_cost 64 = .ok (.aload_n 0, 1) := by decide +kernel
theorem dX8_cost_65 : decode cX8_cost 65 = .ok (.getfield 95, 3) := by decide +kernel
theorem dX8_cost_68 : decode cX8_cost 68 = .ok (.bipush 21, 2) := by decide +kernel
theorem dX8_cost_70 : decode cX8_cost 70 = .ok (.iload_n 2, 1) := by decide +kernel
theorem dX8_cost_71 : decode cX8_cost 71 = .ok (.imul, 1) := by decide +kernel
theorem dX8_cost_72 : decode cX8_cost 72 = .ok (.iload 7, 2) := by decide +kernel
theorem dX8_cost_74 : decode cX8_cost 74 = .ok (.iadd, 1) := by decide +kernel
theorem dX8_cost_75 : decode cX8_cost 75 = .ok (.iaload, 1) := by decide +kernel
theorem dX8_cost_76 : decode cX8_cost 76 = .ok (.iadd, 1) := by decide +kernel
theorem dX8_cost_77 : decode cX8_cost 77 = .ok (.istore 6, 2) := by decide +kernel
theorem dX8_cost_79 : decode cX8_cost 79 = .ok (.iinc 7 1, 3) := by decide +kernel
theorem dX8_cost_82 : decode cX8_cost 82 = .ok (.goto (-27), 3) := by decide +kernel
theorem dX8_cost_85 : decode cX8_cost 85 = .ok (.iload 6, 2) := by decide +kernel
theorem dX8_cost_87 : decode cX8_cost 87 = .ok (.sipush 1000, 3) := by decide +kernel
theorem dX8_cost_90 : decode cX8_cost 90 = .ok (.if_icmp .eq 5, 3) := by decide +kernel
theorem dX8_cost_93 : decode cX8_cost 93 = .ok (.iconst (-1), 1) := by decide +kernel
theorem dX8_cost_94 : decode cX8_cost 94 = .ok (.ireturn, 1) := by decide +kernel
theorem dX8_cost_95 : decode cX8_cost 95 = .ok (.iconst 0, 1) := by decide +kernel
theorem dX8_cost_96 : decode cX8_cost 96 = .ok (.istore 7, 2) := by decide +kernel
theorem dX8_cost_98 : decode cX8_cost 98 = .ok (.aload_n 0, 1) := by decide +kernel
theorem dX8_cost_99 : decode cX8_cost 99 = .ok (.iload_n 1, 1) := by decide +kernel
theorem dX8_cost_100 : decode cX8_cost 100 = .ok (.iload_n 2, 1) := by decide +kernel
theorem dX8_cost_101 : decode cX8_cost 101 = .ok (.invokevirtual 130, 3) := by decide +kernel
theorem dX8_cost_104 : decode cX8_cost 104 = .ok (.sipush 1000, 3) := by decide +kernel
theorem dX8_cost_107 : decode cX8_cost 107 = .ok (.if_icmp .le 9, 3) := by decide +kernel
theorem dX8_cost_110 : decode cX8_cost 110 = .ok (.sipush 1000, 3) := by decide +kernel
theorem dX8_cost_113 : decode cX8_cost 113 = .ok (.goto 9, 3) := by decide +kernel
theorem dX8_cost_116 : decode cX8_cost 116 = .ok (.aload_n 0, 1) := by decide +kernel
theorem dX8_cost_117 : decode cX8_cost 117 = .ok (.iload_n 1, 1) := by decide +kernel
theorem dX8_cost_118 : decode cX8_cost 118 = .ok (.iload_n 2, 1) := by decide +kernel
theorem dX8_cost_119 : decode cX8_cost 119 = .ok (.invokevirtual 130, 3) := by decide +kernel
theorem dX8_cost_122 : decode cX8_cost 122 = .ok (.iload 5, 2) := by decide +kernel
theorem dX8_cost_124 : decode cX8_cost 124 = .ok (.iadd, 1) := by decide +kernel
theorem dX8_cost_125 : decode cX8_cost 125 = .ok (.istore 8, 2) := by decide +kernel
theorem dX8_cost_127 : decode cX8_cost 127 = .ok (.iconst 0, 1) := by decide +kernel
theorem dX8_cost_128 : decode cX8_cost 128 = .ok (.istore 9, 2) := by decide +kernel
theorem dX8_cost_130 : decode cX8_cost 130 = .ok (.iload 9, 2) := by decide +kernel
theorem dX8_cost_132 : decode cX8_cost 132 = .ok (.bipush 21, 2) := by decide +kernel
theorem dX8_cost_134 : decode cX8_cost 134 = .ok (.if_icmp .ge 65, 3) := by decide +kernel
theorem dX8_cost_137 : decode cX8_cost 137 = .ok (.iload 7, 2) := by decide +kernel
theorem dX8_cost_139 : decode cX8_cost 139 = .ok (.iload 9, 2) := by decide +kernel
theorem dX8_cost_141 : decode cX8_cost 141 = .ok (.iload 8, 2) := by decide +kernel
theorem dX8_cost_143 : decode cX8_cost 143 = .ok (.if_icmp .le 26, 3) := by decide +kernel
theorem dX8_cost_146 : decode cX8_cost 146 = .ok (.aload_n 0, 1) := by decide +kernel
theorem dX8_cost_147 : decode cX8_cost 147 = .ok (.getfield 95, 3) := by decide +kernel
theorem dX8_cost_150 : decode cX8_cost 150 = .ok (.bipush 21, 2) := by decide +kernel
theorem dX8_cost_152 : decode cX8_cost 152 = .ok (.iload_n 2, 1) := by decide +kernel
theorem dX8_cost_153 : decode cX8_cost 153 = .ok (.imul, 1) := by decide +kernel
theorem dX8_cost_154 : decode cX8_cost 154 = .ok (.iload 9, 2) := by decide +kernel
theorem dX8_cost_156 : decode cX8_cost 156 = .ok (.iadd, 1) := by decide +kernel
theorem dX8_cost_157 : decode cX8_cost 157 = .ok (.iaload, 1) := by decide +kernel
theorem dX8_cost_158 : decode cX8_cost 158 = .ok (.iload_n 3, 1) := by decide +kernel
theorem dX8_cost_159 : decode cX8_cost 159 = .ok (.imul, 1) := by decide +kernel
theorem dX8_cost_160 : decode cX8_cost 160 = .ok (.iload 9, 2) := by decide +kernel
theorem dX8_cost_162 : decode cX8_cost 162 = .ok (.iload 8, 2) := by decide +kernel
theorem dX8_cost_164 : decode cX8_cost 164 = .ok (.isub, 1) := by decide +kernel
theorem dX8_cost_165 : decode cX8_cost 165 = .ok (.imul, 1) := by decide +kernel
theorem dX8_cost_166 : decode cX8_cost 166 = .ok (.goto 24, 3) := by decide +kernel
theorem dX8_cost_169 : decode cX8_cost 169 = .ok (.aload_n 0, 1) := by decide +kernel
theorem dX8_cost_170 : decode cX8_cost 170 = .ok (.getfield 95, 3) := by decide +kernel
theorem dX8_cost_173 : decode cX8_cost 173 = .ok (.bipush 21, 2) := by decide +kernel
theorem dX8_cost_175 : decode cX8_cost 175 = .ok (.iload_n 2, 1) := by decide +kernel
theorem dX8_cost_176 : decode cX8_cost 176 = .ok (.imul, 1) := by decide +kernel
theorem dX8_cost_177 : decode cX8_cost 177 = .ok (.iload 9, 2) := by decide +kernel
theorem dX8_cost_179 : decode cX8_cost 179 = .ok (.iadd, 1) := by decide +kernel
theorem dX8_cost_180 : decode cX8_cost 180 = .ok (.iaload, 1) := by decide +kernel
theorem dX8_cost_181 : decode cX8_cost 181 = .ok (.iload 4, 2) := by decide +kernel
theorem dX8_cost_183 : decode cX8_cost 183 = .ok (.imul, 1) := by decide +kernel
theorem dX8_cost_184 : decode cX8_cost 184 = .ok (.iload 8, 2) := by decide +kernel
theorem dX8_cost_186 : decode cX8_cost 186 = .ok (.iload 9, 2) := by decide +kernel
theorem dX8_cost_188 : decode cX8_cost 188 = .ok (.isub, 1) := by decide +kernel
theorem dX8_cost_189 : decode cX8_cost 189 = .ok (.imul, 1) := by decide +kernel
theorem dX8_cost_190 : decode cX8_cost 190 = .ok (.iadd, 1) := by decide +kernel
theorem dX8_cost_191 : decode cX8_cost 191 = .ok (.istore 7, 2) := by decide +kernel
theorem dX8_cost_193 : decode cX8_cost 193 = .ok (.iinc 9 1, 3) := by decide +kernel
theorem dX8_cost_196 : decode cX8_cost 196 = .ok (.goto (-66), 3) := by decide +kernel
theorem dX8_cost_199 : decode cX8_cost 199 = .ok (.iload 7, 2) := by decide +kernel
theorem dX8_cost_201 : decode cX8_cost 201 = .ok (.ireturn, 1) := by decide +kernel
set_option maxRecDepth 20000 in
set_option maxRecDepth 100000 in
theorem ggX8_indent_X8_cost : GoodIn wsX8_indent wsX8_cost := goodIn_r _ [5, 6, 7, 8, 9, 4, 10, 11, 12, 13, 14, 15, 16, 17, 18, 19, 20, 21, 22, 23, 24, 25, 26, 27, 28, 29, 30, 31, 32, 33, 34, 35, 36, 37, 38, 39, 40, 41, 42, 43, 44, 45, 46, 47, 48, 49, 50, 51, 52, 53, 54, 55, 56, 57, 58, 59] rfl (by decide +kernel)
set_option maxRecDepth 20000 in
theorem gX8_indent_X8_cost : GoodIn wsX8_indent (wsV RX8 180 RX8 yX8_cost wsX8_cost) := goodIn_app (goodIn_of _ (by decide +kernel)) ggX8_indent_X8_cost
theorem dX8_indent_0 : decode cX8_indent 0 = .ok (.iconst (-1), 1) := by decide +kernel
theorem dX8_indent_1 : decode cX8_indent 1 = .ok (.istore 5, 2) := by decide +kernel
theorem dX8_indent_3 : decode cX8_indent 3 = .ok (.iconst 0, 1) := by decide +kernel
theorem dX8_indent_4 : decode cX8_indent 4 = .ok (.istore 6, 2) := by decide +kernel
theorem dX8_indent_6 : decode cX8_indent 6 = .ok (.iload 6, 2) := by decide +kernel
theorem dX8_indent_8 : decode cX8_indent 8 = .ok (.bipush 21, 2) := by decide +kernel
theorem dX8_indent_10 : decode cX8_indent 10 = .ok (.if_icmp .ge 56, 3) := by decide +kernel
theorem dX8_indent_13 : decode cX8_indent 13 = .ok (.aload_n 0, 1) := by decide +kernel
theorem dX8_indent_14 : decode cX8_indent 14 = .ok (.iload_n 1, 1) := by decide +kernel
theorem dX8_indent_15 : decode cX8_indent 15 = .ok (.iload_n 2, 1) := by decide +kernel
theorem dX8_indent_16 : decode cX8_indent 16 = .ok (.iload_n 3, 1) := by decide +kernel
theorem dX8_indent_17 : decode cX8_indent 17 = .ok (.iload 4, 2) := by decide +kernel
theorem dX8_indent_19 : decode cX8_indent 19 = .ok (.iload 6, 2) := by decide +kernel
theorem dX8_indent_21 : decode cX8_indent 21 = .ok (.invokevirtual 180, 3) := by decide +kernel
theorem dX8_indent_24 : decode cX8_indent 24 = .ok (.istore 7, 2) := by decide +kernel
theorem dX8_indent_26 : decode cX8_indent 26 = .ok (.iload 7, 2) := by decide +kernel
theorem dX8_indent_28 : decode cX8_indent 28 = .ok (.iconst (-1), 1) := by decide +kernel
theorem dX8_indent_29 : decode cX8_indent 29 = .ok (.if_icmp .ne 5, 3) := by decide +kernel
theorem dX8_indent_32 : decode cX8_indent 32 = .ok (.iconst (-1), 1) := by decide +kernel
theorem dX8_indent_33 : decode cX8_indent 33 = .ok (.ireturn, 1) := by decide +kernel
theorem dX8_indent_34 : decode cX8_indent 34 = .ok (.iload 5, 2) := by decide +kernel
theorem dX8_indent_36 : decode cX8_indent 36 = .ok (.iconst (-1), 1) := by decide +kernel
theorem dX8_indent_37 : decode cX8_indent 37 = .ok (.if_icmp .eq 19, 3) := by decide +kernel
theorem dX8_indent_40 : decode cX8_indent 40 = .ok (.iload 7, 2) := by decide +kernel
theorem dX8_indent_42 : decode cX8_indent 42 = .ok (.aload_n 0, 1) := by decide +kernel
theorem dX8_indent_43 : decode cX8_indent 43 = .ok (.iload_n 1, 1) := by decide +kernel
theorem dX8_indent_44 : decode cX8_indent 44 = .ok (.iload_n 2, 1) := by decide +kernel
theorem dX8_indent_45 : decode cX8_indent 45 = .ok (.iload_n 3, 1) := by decide +kernel
theorem dX8_indent_46 : decode cX8_indent 46 = .ok (.iload 4, 2) := by decide +kernel
theorem dX8_indent_48 : decode cX8_indent 48 = .ok (.iload 5, 2) := by decide +kernel
theorem dX8_indent_50 : decode cX8_indent 50 = .ok (.invokevirtual 180, 3) := by decide +kernel
theorem dX8_indent_53 : decode cX8_indent 53 = .ok (.if_icmp .ge 7, 3) := by decide +kernel
theorem dX8_indent_56 : decode cX8_indent 56 = .ok (.iload 6, 2) := by decide +kernel
theorem dX8_indent_58 : decode cX8_indent 58 = .ok (.istore 5, 2) := by decide +kernel
theorem dX8_indent_60 : decode cX8_indent 60 = .ok (.iinc 6 1, 3) := by decide +kernel
theorem dX8_indent_63 : decode cX8_indent 63 = .ok (.goto (-57), 3) := by decide +kernel
theorem dX8_indent_66 : decode cX8_indent 66 = .ok (.iload 5, 2) := by decide +kernel
theorem dX8_indent_68 : decode cX8_indent 68 = .ok (.ireturn, 1) := by decide +kernel
set_option maxRecDepth 20000 in
set_option maxRecDepth 100000 in
theorem ggX8_quarrel_X8_isPost : GoodIn wsX8_quarrel wsX8_isPost := goodIn_r _ [10, 11, 12, 13, 9, 14, 15, 16, 17, 18, 19, 20, 21, 22, 23, 24, 25, 26, 27, 28, 29, 30, 31, 32, 33, 34, 35, 36, 37, 38, 39, 40, 41, 42, 43, 44, 45, 46, 47, 48, 49, 50, 51] rfl (by decide +kernel)
set_option maxRecDepth 20000 in
theorem gX8_quarrel_X8_isPost : GoodIn wsX8_quarrel (wsV RX8 119 RX8 yX8_isPost wsX8_isPost) := goodIn_app (goodIn_of _ (by decide +kernel)) ggX8_quarrel_X8_isPost
theorem dX8_quarrel_0 : decode cX8_quarrel 0 = .ok (.aload_n 0, 1) := by decide +kernel
theorem dX8_quarrel_1 : decode cX8_quarrel 1 = .ok (.iload_n 1, 1) := by decide +kernel
theorem dX8_quarrel_2 : decode cX8_quarrel 2 = .ok (.invokevirtual 119, 3) := by decide +kernel
theorem dX8_quarrel_5 : decode cX8_quarrel 5 = .ok (.ifCond .eq 11, 3) := by decide +kernel
theorem dX8_quarrel_8 : decode cX8_quarrel 8 = .ok (.aload_n 0, 1) := by decide +kernel
theorem dX8_quarrel_9 : decode cX8_quarrel 9 = .ok (.iload_n 2, 1) := by decide +kernel
theorem dX8_quarrel_10 : decode cX8_quarrel 10 = .ok (.invokevirtual 119, 3) := by decide +kernel
theorem dX8_quarrel_13 : decode cX8_quarrel 13 = .ok (.ifCond .ne 5, 3) := by decide +kernel
theorem dX8_quarrel_16 : decode cX8_quarrel 16 = .ok (.iconst (-1), 1) := by decide +kernel
theorem dX8_quarrel_17 : decode cX8_quarrel 17 = .ok (.ireturn, 1) := by decide +kernel
theorem dX8_quarrel_18 : decode cX8_quarrel 18 = .ok (.iconst 0, 1) := by decide +kernel
theorem dX8_quarrel_19 : decode cX8_quarrel 19 = .ok (.istore_n 3, 1) := by decide +kernel
theorem dX8_quarrel_20 : decode cX8_quarrel 20 = .ok (.iload_n 3, 1) := by decide +kernel
theorem dX8_quarrel_21 : decode cX8_quarrel 21 = .ok (.aload_n 0, 1) := by decide +kernel
theorem dX8_quarrel_22 : decode cX8_quarrel 22 = .ok (.getfield 112, 3) := by decide +kernel
theorem dX8_quarrel_25 : decode cX8_quarrel 25 = .ok (.if_icmp .ge 92, 3) := by decide +kernel
theorem dX8_quarrel_28 : decode cX8_quarrel 28 = .ok (.aload_n 0, 1) := by decide +kernel
theorem dX8_quarrel_29 : decode cX8_quarrel 29 = .ok (.getfield 40, 3) := by decide +kernel
theorem dX8_quarrel_32 : decode cX8_quarrel 32 = .ok (.iload_n 3, 1) := by decide +kernel
theorem dX8_quarrel_33 : decode cX8_quarrel 33 = .ok (.iaload, 1) := by decide +kernel
theorem dX8_quarrel_34 : decode cX8_quarrel 34 = .ok (.iload_n 1, 1) := by decide +kernel
theorem dX8_quarrel_35 : decode cX8_quarrel 35 = .ok (.if_icmp .ne 13, 3) := by decide +kernel
theorem dX8_quarrel_38 : decode cX8_quarrel 38 = .ok (.aload_n 0, 1) := by decide +kernel
theorem dX8_quarrel_39 : decode cX8_quarrel 39 = .ok (.getfield 43, 3) := by decide +kernel
theorem dX8_quarrel_42 : decode cX8_quarrel 42 = .ok (.iload_n 3, 1) := by decide +kernel
theorem dX8_quarrel_43 : decode cX8_quarrel 43 = .ok (.iaload, 1) := by decide +kernel
theorem dX8_quarrel_44 : decode cX8_quarrel 44 = .ok (.iload_n 2, 1) := by decide +kernel
theorem dX8_quarrel_45 : decode cX8_quarrel 45 = .ok (.if_icmp .eq 23, 3) := by decide +kernel
theorem dX8_quarrel_48 : decode cX8_quarrel 48 = .ok (.aload_n 0, 1) := by decide +kernel
theorem dX8_quarrel_49 : decode cX8_quarrel 49 = .ok (.getfield 40, 3) := by decide +kernel
theorem dX8_quarrel_52 : decode cX8_quarrel 52 = .ok (.iload_n 3, 1) := by decide +kernel
theorem dX8_quarrel_53 : decode cX8_quarrel 53 = .ok (.iaload, 1) := by decide +kernel
theorem dX8_quarrel_54 : decode cX8_quarrel 54 = .ok (.iload_n 2, 1) := by decide +kernel
theorem dX8_quarrel_55 : decode cX8_quarrel 55 = .ok (.if_icmp .ne 17, 3) := by decide +kernel
theorem dX8_quarrel_58 : decode cX8_quarrel 58 = .ok (.aload_n 0, 1) := by decide +kernel
theorem dX8_quarrel_59 : decode cX8_quarrel 59 = .ok (.getfield 43, 3) := by decide +kernel
theorem dX8_quarrel_62 : decode cX8_quarrel 62 = .ok (.iload_n 3, 1) := by decide +kernel
theorem dX8_quarrel_63 : decode cX8_quarrel 63 = .ok (.iaload, 1) := by decide +kernel
theorem dX8_quarrel_64 : decode cX8_quarrel 64 = .ok (.iload_n 1, 1) := by decide +kernel
theorem dX8_quarrel_65 : decode cX8_quarrel 65 = .ok (.if_icmp .ne 7, 3) := by decide +kernel
theorem dX8_quarrel_68 : decode cX8_quarrel 68 = .ok (.iconst 1, 1) := by decide +kernel
theorem dX8_quarrel_69 : decode cX8_quarrel 69 = .ok (.goto 4, 3) := by decide +kernel
theorem dX8_quarrel_72 : decode cX8_quarrel 72 = .ok (.iconst 0, 1) := by decide +kernel
theorem dX8_quarrel_73 : decode cX8_quarrel 73 = .ok (.istore 4, 2) := by decide +kernel
theorem dX8_quarrel_75 : decode cX8_quarrel 75 = .ok (.iload 4, 2) := by decide +kernel
theorem dX8_quarrel_77 : decode cX8_quarrel 77 = .ok (.ifCond .eq 34, 3) := by decide +kernel
theorem dX8_quarrel_80 : decode cX8_quarrel 80 = .ok (.aload_n 0, 1) := by decide +kernel
theorem dX8_quarrel_81 : decode cX8_quarrel 81 = .ok (.getfield 52, 3) := by decide +kernel
theorem dX8_quarrel_84 : decode cX8_quarrel 84 = .ok (.iload_n 3, 1) := by decide +kernel
theorem dX8_quarrel_85 : decode cX8_quarrel 85 = .ok (.iaload, 1) := by decide +kernel
theorem dX8_quarrel_86 : decode cX8_quarrel 86 = .ok (.iconst 2, 1) := by decide +kernel
theorem dX8_quarrel_87 : decode cX8_quarrel 87 = .ok (.if_icmp .eq 22, 3) := by decide +kernel
theorem dX8_quarrel_90 : decode cX8_quarrel 90 = .ok (.aload_n 0, 1) := by decide +kernel
theorem dX8_quarrel_91 : decode cX8_quarrel 91 = .ok (.getfield 52, 3) := by decide +kernel
theorem dX8_quarrel_94 : decode cX8_quarrel 94 = .ok (.iload_n 3, 1) := by decide +kernel
theorem dX8_quarrel_95 : decode cX8_quarrel 95 = .ok (.iaload, 1) := by decide +kernel
theorem dX8_quarrel_96 : decode cX8_quarrel 96 = .ok (.iconst 1, 1) := by decide +kernel
theorem dX8_quarrel_97 : decode cX8_quarrel 97 = .ok (.if_icmp .ne 14, 3) := by decide +kernel
theorem dX8_quarrel_100 : decode cX8_quarrel 100 = .ok (.aload_n 0, 1) := by decide +kernel
theorem dX8_quarrel_101 : decode cX8_quarrel 101 = .ok (.getfield 70, 3) := by decide +kernel
theorem dX8_quarrel_104 : decode cX8_quarrel 104 = .ok (.iload_n 3, 1) := by decide +kernel
theorem dX8_quarrel_105 : decode cX8_quarrel 105 = .ok (.baload, 1) := by decide +kernel
theorem dX8_quarrel_106 : decode cX8_quarrel 106 = .ok (.ifCond .eq 5, 3) := by decide +kernel
theorem dX8_quarrel_109 : decode cX8_quarrel 109 = .ok (.iload_n 3, 1) := by decide +kernel
theorem dX8_quarrel_110 : decode cX8_quarrel 110 = .ok (.ireturn, 1) := by decide +kernel
theorem dX8_quarrel_111 : decode cX8_quarrel 111 = .ok (.iinc 3 1, 3) := by decide +kernel
theorem dX8_quarrel_114 : decode cX8_quarrel 114 = .ok (.goto (-94), 3) := by decide +kernel
theorem dX8_quarrel_117 : decode cX8_quarrel 117 = .ok (.iconst (-1), 1) := by decide +kernel
theorem dX8_quarrel_118 : decode cX8_quarrel 118 = .ok (.ireturn, 1) := by decide +kernel
set_option maxRecDepth 20000 in
set_option maxRecDepth 100000 in
theorem ggX8_canoe_X8_isCanoe : GoodIn wsX8_canoe wsX8_isCanoe := goodIn_r _ [15, 16, 17, 18, 14, 19, 20, 21, 22, 23, 24, 25, 26, 27, 28, 29, 30, 31, 32, 33, 34, 35, 36, 37, 38, 39, 40, 41, 42, 43, 44, 45, 46, 47, 48, 49, 50, 51, 52, 53, 54, 55, 56] rfl (by decide +kernel)
set_option maxRecDepth 20000 in
theorem gX8_canoe_X8_isCanoe : GoodIn wsX8_canoe (wsV RX8 150 RX8 yX8_isCanoe wsX8_isCanoe) := goodIn_app (goodIn_of _ (by decide +kernel)) ggX8_canoe_X8_isCanoe
set_option maxRecDepth 20000 in
set_option maxRecDepth 100000 in
theorem ggX8_canoe_X8_in : GoodIn wsX8_canoe wsX8_in := goodIn_r _ [19] rfl (by decide +kernel)
set_option maxRecDepth 20000 in
theorem gX8_canoe_X8_in : GoodIn wsX8_canoe (va_wsS RX8 108 yX8_in wsX8_in) := goodIn_app (goodIn_of _ (by decide +kernel)) ggX8_canoe_X8_in
theorem dX8_canoe_0 : decode cX8_canoe 0 = .ok (.aload_n 0, 1) := by decide +kernel
theorem dX8_canoe_1 : decode cX8_canoe 1 = .ok (.iload_n 1, 1) := by decide +kernel
theorem dX8_canoe_2 : decode cX8_canoe 2 = .ok (.invokevirtual 150, 3) := by decide +kernel
theorem dX8_canoe_5 : decode cX8_canoe 5 = .ok (.ifCond .ne 5, 3) := by decide +kernel
theorem dX8_canoe_8 : decode cX8_canoe 8 = .ok (.iconst (-1), 1) := by decide +kernel
theorem dX8_canoe_9 : decode cX8_canoe 9 = .ok (.ireturn, 1) := by decide +kernel
theorem dX8_canoe_10 : decode cX8_canoe 10 = .ok (.iload_n 2, 1) := by decide +kernel
theorem dX8_canoe_11 : decode cX8_canoe 11 = .ok (.bipush 10, 2) := by decide +kernel
theorem dX8_canoe_13 : decode cX8_canoe 13 = .ok (.bipush 15, 2) := by decide +kernel
theorem dX8_canoe_15 : decode cX8_canoe 15 = .ok (.invokestatic 108, 3) := by decide +kernel
theorem dX8_canoe_18 : decode cX8_canoe 18 = .ok (.ifCond .eq 18, 3) := by decide +kernel
theorem dX8_canoe_21 : decode cX8_canoe 21 = .ok (.aload_n 0, 1) := by decide +kernel
theorem dX8_canoe_22 : decode cX8_canoe 22 = .ok (.getfield 64, 3) := by decide +kernel
theorem dX8_canoe_25 : decode cX8_canoe 25 = .ok (.bipush 6, 2) := by decide +kernel
theorem dX8_canoe_27 : decode cX8_canoe 27 = .ok (.iload_n 1, 1) := by decide +kernel
theorem dX8_canoe_28 : decode cX8_canoe 28 = .ok (.imul, 1) := by decide +kernel
theorem dX8_canoe_29 : decode cX8_canoe 29 = .ok (.iload_n 2, 1) := by decide +kernel
theorem dX8_canoe_30 : decode cX8_canoe 30 = .ok (.iadd, 1) := by decide +kernel
theorem dX8_canoe_31 : decode cX8_canoe 31 = .ok (.bipush 10, 2) := by decide +kernel
theorem dX8_canoe_33 : decode cX8_canoe 33 = .ok (.isub, 1) := by decide +kernel
theorem dX8_canoe_34 : decode cX8_canoe 34 = .ok (.iaload, 1) := by decide +kernel
theorem dX8_canoe_35 : decode cX8_canoe 35 = .ok (.ireturn, 1) := by decide +kernel
theorem dX8_canoe_36 : decode cX8_canoe 36 = .ok (.iload_n 2, 1) := by decide +kernel
theorem dX8_canoe_37 : decode cX8_canoe 37 = .ok (.bipush 20, 2) := by decide +kernel
theorem dX8_canoe_39 : decode cX8_canoe 39 = .ok (.bipush 25, 2) := by decide +kernel
theorem dX8_canoe_41 : decode cX8_canoe 41 = .ok (.invokestatic 108, 3) := by decide +kernel
theorem dX8_canoe_44 : decode cX8_canoe 44 = .ok (.ifCond .eq 18, 3) := by decide +kernel
theorem dX8_canoe_47 : decode cX8_canoe 47 = .ok (.aload_n 0, 1) := by decide +kernel
theorem dX8_canoe_48 : decode cX8_canoe 48 = .ok (.getfield 67, 3) := by decide +kernel
theorem dX8_canoe_51 : decode cX8_canoe 51 = .ok (.bipush 6, 2) := by decide +kernel
theorem dX8_canoe_53 : decode cX8_canoe 53 = .ok (.iload_n 1, 1) := by decide +kernel
theorem dX8_canoe_54 : decode cX8_canoe 54 = .ok (.imul, 1) := by decide +kernel
theorem dX8_canoe_55 : decode cX8_canoe 55 = .ok (.iload_n 2, 1) := by decide +kernel
theorem dX8_canoe_56 : decode cX8_canoe 56 = .ok (.iadd, 1) := by decide +kernel
theorem dX8_canoe_57 : decode cX8_canoe 57 = .ok (.bipush 20, 2) := by decide +kernel
theorem dX8_canoe_59 : decode cX8_canoe 59 = .ok (.isub, 1) := by decide +kernel
theorem dX8_canoe_60 : decode cX8_canoe 60 = .ok (.iaload, 1) := by decide +kernel
theorem dX8_canoe_61 : decode cX8_canoe 61 = .ok (.ireturn, 1) := by decide +kernel
theorem dX8_canoe_62 : decode cX8_canoe 62 = .ok (.iload_n 2, 1) := by decide +kernel
theorem dX8_canoe_63 : decode cX8_canoe 63 = .ok (.tableswitch 114 0 7 #[45, 52, 59, 66, 86, 93, 100, 107], 45) := by decide +kernel
theorem dX8_canoe_108 : decode cX8_canoe 108 = .ok (.aload_n 0, 1) := by decide +kernel
theorem dX8_canoe_109 : decode cX8_canoe 109 = .ok (.getfield 40, 3) := by decide +kernel
theorem dX8_canoe_112 : decode cX8_canoe 112 = .ok (.iload_n 1, 1) := by decide +kernel
theorem dX8_canoe_113 : decode cX8_canoe 113 = .ok (.iaload, 1) := by decide +kernel
theorem dX8_canoe_114 : decode cX8_canoe 114 = .ok (.ireturn, 1) := by decide +kernel
theorem dX8_canoe_115 : decode cX8_canoe 115 = .ok (.aload_n 0, 1) := by decide +kernel
theorem dX8_canoe_116 : decode cX8_canoe 116 = .ok (.getfield 43, 3) := by decide +kernel
theorem dX8_canoe_119 : decode cX8_canoe 119 = .ok (.iload_n 1, 1) := by decide +kernel
theorem dX8_canoe_120 : decode cX8_canoe 120 = .ok (.iaload, 1) := by decide +kernel
theorem dX8_canoe_121 : decode cX8_canoe 121 = .ok (.ireturn, 1) := by decide +kernel
theorem dX8_canoe_122 : decode cX8_canoe 122 = .ok (.aload_n 0, 1) := by decide +kernel
theorem dX8_canoe_123 : decode cX8_canoe 123 = .ok (.getfield 46, 3) := by decide +kernel
theorem dX8_canoe_126 : decode cX8_canoe 126 = .ok (.iload_n 1, 1) := by decide +kernel
theorem dX8_canoe_127 : decode cX8_canoe 127 = .ok (.iaload, 1) := by decide +kernel
theorem dX8_canoe_128 : decode cX8_canoe 128 = .ok (.ireturn, 1) := by decide +kernel
theorem dX8_canoe_129 : decode cX8_canoe 129 = .ok (.aload_n 0, 1) := by decide +kernel
theorem dX8_canoe_130 : decode cX8_canoe 130 = .ok (.getfield 52, 3) := by decide +kernel
theorem dX8_canoe_133 : decode cX8_canoe 133 = .ok (.iload_n 1, 1) := by decide +kernel
theorem dX8_canoe_134 : decode cX8_canoe 134 = .ok (.iaload, 1) := by decide +kernel
theorem dX8_canoe_135 : decode cX8_canoe 135 = .ok (.ifCond .ne 12, 3) := by decide +kernel
theorem dX8_canoe_138 : decode cX8_canoe 138 = .ok (.aload_n 0, 1) := by decide +kernel
theorem dX8_canoe_139 : decode cX8_canoe 139 = .ok (.getfield 49, 3) := by decide +kernel
theorem dX8_canoe_142 : decode cX8_canoe 142 = .ok (.iload_n 1, 1) := by decide +kernel
theorem dX8_canoe_143 : decode cX8_canoe 143 = .ok (.iaload, 1) := by decide +kernel
theorem dX8_canoe_144 : decode cX8_canoe 144 = .ok (.goto 4, 3) := by decide +kernel
theorem dX8_canoe_147 : decode cX8_canoe 147 = .ok (.iconst 0, 1) := by decide +kernel
theorem dX8_canoe_148 : decode cX8_canoe 148 = .ok (.ireturn, 1) := by decide +kernel
theorem dX8_canoe_149 : decode cX8_canoe 149 = .ok (.aload_n 0, 1) := by decide +kernel
theorem dX8_canoe_150 : decode cX8_canoe 150 = .ok (.getfield 52, 3) := by decide +kernel
theorem dX8_canoe_153 : decode cX8_canoe 153 = .ok (.iload_n 1, 1) := by decide +kernel
theorem dX8_canoe_154 : decode cX8_canoe 154 = .ok (.iaload, 1) := by decide +kernel
theorem dX8_canoe_155 : decode cX8_canoe 155 = .ok (.ireturn, 1) := by decide +kernel
theorem dX8_canoe_156 : decode cX8_canoe 156 = .ok (.aload_n 0, 1) := by decide +kernel
theorem dX8_canoe_157 : decode cX8_canoe 157 = .ok (.getfield 55, 3) := by decide +kernel
theorem dX8_canoe_160 : decode cX8_canoe 160 = .ok (.iload_n 1, 1) := by decide +kernel
theorem dX8_canoe_161 : decode cX8_canoe 161 = .ok (.iaload, 1) := by decide +kernel
theorem dX8_canoe_162 : decode cX8_canoe 162 = .ok (.ireturn, 1) := by decide +kernel
theorem dX8_canoe_163 : decode cX8_canoe 163 = .ok (.aload_n 0, 1) := by decide +kernel
theorem dX8_canoe_164 : decode cX8_canoe 164 = .ok (.getfield 58, 3) := by decide +kernel
theorem dX8_canoe_167 : decode cX8_canoe 167 = .ok (.iload_n 1, 1) := by decide +kernel
theorem dX8_canoe_168 : decode cX8_canoe 168 = .ok (.iaload, 1) := by decide +kernel
theorem dX8_canoe_169 : decode cX8_canoe 169 = .ok (.ireturn, 1) := by decide +kernel
theorem dX8_canoe_170 : decode cX8_canoe 170 = .ok (.aload_n 0, 1) := by decide +kernel
theorem dX8_canoe_171 : decode cX8_canoe 171 = .ok (.getfield 61, 3) := by decide +kernel
theorem dX8_canoe_174 : decode cX8_canoe 174 = .ok (.iload_n 1, 1) := by decide +kernel
theorem dX8_canoe_175 : decode cX8_canoe 175 = .ok (.iaload, 1) := by decide +kernel
theorem dX8_canoe_176 : decode cX8_canoe 176 = .ok (.ireturn, 1) := by decide +kernel
theorem dX8_canoe_177 : decode cX8_canoe 177 = .ok (.iconst (-1), 1) := by decide +kernel
theorem dX8_canoe_178 : decode cX8_canoe 178 = .ok (.ireturn, 1) := by decide +kernel
set_option maxRecDepth 20000 in
set_option maxRecDepth 100000 in
theorem ggX8_told_X8_isPost : GoodIn wsX8_told wsX8_isPost := goodIn_r _ [7, 8, 9, 10, 6, 11, 22, 23, 24, 25, 26, 27, 28, 29, 30, 31, 32, 33, 34, 35, 36, 37, 38, 39, 40, 41, 42, 43, 44, 45, 46, 47, 48, 49, 50, 51, 52, 53, 54, 55, 56, 57, 58] rfl (by decide +kernel)
set_option maxRecDepth 20000 in
theorem gX8_told_X8_isPost : GoodIn wsX8_told (wsV RX8 119 RX8 yX8_isPost wsX8_isPost) := goodIn_app (goodIn_of _ (by decide +kernel)) ggX8_told_X8_isPost
set_option maxRecDepth 20000 in
set_option maxRecDepth 100000 in
theorem ggX8_told_X8_in : GoodIn wsX8_told wsX8_in := goodIn_r _ [11] rfl (by decide +kernel)
set_option maxRecDepth 20000 in
theorem gX8_told_X8_in : GoodIn wsX8_told (va_wsS RX8 108 yX8_in wsX8_in) := goodIn_app (goodIn_of _ (by decide +kernel)) ggX8_told_X8_in
set_option maxRecDepth 20000 in
set_option maxRecDepth 100000 in
theorem ggX8_told_X8_stored : GoodIn wsX8_told wsX8_stored := goodIn_r _ [15, 16, 22, 23, 24, 25, 26, 27, 28, 29, 30, 31, 32, 33, 34, 35, 36, 37, 38, 39, 40, 41, 42, 43, 44, 45, 46, 47, 48, 49, 50, 51, 52, 53, 54, 55, 56, 57, 58] rfl (by decide +kernel)
set_option maxRecDepth 20000 in
theorem gX8_told_X8_stored : GoodIn wsX8_told (wsV RX8 130 RX8 yX8_stored wsX8_stored) := goodIn_app (goodIn_of _ (by decide +kernel)) ggX8_told_X8_stored
set_option maxRecDepth 20000 in
set_option maxRecDepth 100000 in
theorem ggX8_told_X8_owes : GoodIn wsX8_told wsX8_owes := goodIn_r _ [20, 21, 3, 4, 5, 6, 7, 8, 9, 10, 11, 22, 23, 24, 25, 26, 27, 28, 29, 30, 31, 32, 33, 34, 35, 36, 37, 38, 39, 40, 41, 42, 43, 44, 45, 46, 47, 48, 49, 50, 51, 52, 53, 54, 55, 56, 57, 58] rfl (by decide +kernel)
set_option maxRecDepth 20000 in
theorem gX8_told_X8_owes : GoodIn wsX8_told (wsV RX8 178 RX8 yX8_owes wsX8_owes) := goodIn_app (goodIn_of _ (by decide +kernel)) ggX8_told_X8_owes
theorem dX8_told_0 : decode cX8_told 0 = .ok (.aload_n 0, 1) := by decide +kernel
theorem dX8_told_1 : decode cX8_told 1 = .ok (.iload_n 1, 1) := by decide +kernel
theorem dX8_told_2 : decode cX8_told 2 = .ok (.invokevirtual 119, 3) := by decide +kernel
theorem dX8_told_5 : decode cX8_told 5 = .ok (.ifCond .ne 5, 3) := by decide +kernel
theorem dX8_told_8 : decode cX8_told 8 = .ok (.iconst (-1), 1) := by decide +kernel
theorem dX8_told_9 : decode cX8_told 9 = .ok (.ireturn, 1) := by decide +kernel
theorem dX8_told_10 : decode cX8_told 10 = .ok (.iload_n 2, 1) := by decide +kernel
theorem dX8_told_11 : decode cX8_told 11 = .ok (.iconst 0, 1) := by decide +kernel
theorem dX8_told_12 : decode cX8_told 12 = .ok (.iconst 5, 1) := by decide +kernel
theorem dX8_told_13 : decode cX8_told 13 = .ok (.invokestatic 108, 3) := by decide +kernel
theorem dX8_told_16 : decode cX8_told 16 = .ok (.ifCond .eq 10, 3) := by decide +kernel
theorem dX8_told_19 : decode cX8_told 19 = .ok (.aload_n 0, 1) := by decide +kernel
theorem dX8_told_20 : decode cX8_told 20 = .ok (.iload_n 1, 1) := by decide +kernel
theorem dX8_told_21 : decode cX8_told 21 = .ok (.iload_n 2, 1) := by decide +kernel
theorem dX8_told_22 : decode cX8_told 22 = .ok (.invokevirtual 130, 3) := by decide +kernel
theorem dX8_told_25 : decode cX8_told 25 = .ok (.ireturn, 1) := by decide +kernel
theorem dX8_told_26 : decode cX8_told 26 = .ok (.iconst 0, 1) := by decide +kernel
theorem dX8_told_27 : decode cX8_told 27 = .ok (.istore_n 3, 1) := by decide +kernel
theorem dX8_told_28 : decode cX8_told 28 = .ok (.iload_n 2, 1) := by decide +kernel
theorem dX8_told_29 : decode cX8_told 29 = .ok (.bipush 6, 2) := by decide +kernel
theorem dX8_told_31 : decode cX8_told 31 = .ok (.if_icmp .ne 42, 3) := by decide +kernel
theorem dX8_told_34 : decode cX8_told 34 = .ok (.iconst 0, 1) := by decide +kernel
theorem dX8_told_35 : decode cX8_told 35 = .ok (.istore 4, 2) := by decide +kernel
theorem dX8_told_37 : decode cX8_told 37 = .ok (.iload 4, 2) := by decide +kernel
theorem dX8_told_39 : decode cX8_told 39 = .ok (.aload_n 0, 1) := by decide +kernel
theorem dX8_told_40 : decode cX8_told 40 = .ok (.getfield 144, 3) := by decide +kernel
theorem dX8_told_43 : decode cX8_told 43 = .ok (.if_icmp .ge 28, 3) := by decide +kernel
theorem dX8_told_46 : decode cX8_told 46 = .ok (.iload_n 3, 1) := by decide +kernel
theorem dX8_told_47 : decode cX8_told 47 = .ok (.aload_n 0, 1) := by decide +kernel
theorem dX8_told_48 : decode cX8_told 48 = .ok (.getfield 80, 3) := by decide +kernel
theorem dX8_told_51 : decode cX8_told 51 = .ok (.iload 4, 2) := by decide +kernel
theorem dX8_told_53 : decode cX8_told 53 = .ok (.iaload, 1) := by decide +kernel
theorem dX8_told_54 : decode cX8_told 54 = .ok (.iload_n 1, 1) := by decide +kernel
theorem dX8_told_55 : decode cX8_told 55 = .ok (.if_icmp .ne 7, 3) := by decide +kernel
theorem dX8_told_58 : decode cX8_told 58 = .ok (.iconst 1, 1) := by decide +kernel
theorem dX8_told_59 : decode cX8_told 59 = .ok (.goto 4, 3) := by decide +kernel
theorem dX8_told_62 : decode cX8_told 62 = .ok (.iconst 0, 1) := by decide +kernel
theorem dX8_told_63 : decode cX8_told 63 = .ok (.iadd, 1) := by decide +kernel
theorem dX8_told_64 : decode cX8_told 64 = .ok (.istore_n 3, 1) := by decide +kernel
theorem dX8_told_65 : decode cX8_told 65 = .ok (.iinc 4 1, 3) := by decide +kernel
theorem dX8_told_68 : decode cX8_told 68 = .ok (.goto (-31), 3) := by decide +kernel
theorem dX8_told_71 : decode cX8_told 71 = .ok (.iload_n 3, 1) := by decide +kernel
theorem dX8_told_72 : decode cX8_told 72 = .ok (.ireturn, 1) := by decide +kernel
theorem dX8_told_73 : decode cX8_told 73 = .ok (.iconst 0, 1) := by decide +kernel
theorem dX8_told_74 : decode cX8_told 74 = .ok (.istore 4, 2) := by decide +kernel
theorem dX8_told_76 : decode cX8_told 76 = .ok (.iload 4, 2) := by decide +kernel
theorem dX8_told_78 : decode cX8_told 78 = .ok (.bipush 12, 2) := by decide +kernel
theorem dX8_told_80 : decode cX8_told 80 = .ok (.if_icmp .ge 19, 3) := by decide +kernel
theorem dX8_told_83 : decode cX8_told 83 = .ok (.iload_n 3, 1) := by decide +kernel
theorem dX8_told_84 : decode cX8_told 84 = .ok (.aload_n 0, 1) := by decide +kernel
theorem dX8_told_85 : decode cX8_told 85 = .ok (.iload_n 1, 1) := by decide +kernel
theorem dX8_told_86 : decode cX8_told 86 = .ok (.iload 4, 2) := by decide +kernel
theorem dX8_told_88 : decode cX8_told 88 = .ok (.invokevirtual 178, 3) := by decide +kernel
theorem dX8_told_91 : decode cX8_told 91 = .ok (.iadd, 1) := by decide +kernel
theorem dX8_told_92 : decode cX8_told 92 = .ok (.istore_n 3, 1) := by decide +kernel
theorem dX8_told_93 : decode cX8_told 93 = .ok (.iinc 4 1, 3) := by decide +kernel
theorem dX8_told_96 : decode cX8_told 96 = .ok (.goto (-20), 3) := by decide +kernel
theorem dX8_told_99 : decode cX8_told 99 = .ok (.iload_n 2, 1) := by decide +kernel
theorem dX8_told_100 : decode cX8_told 100 = .ok (.bipush 7, 2) := by decide +kernel
theorem dX8_told_102 : decode cX8_told 102 = .ok (.if_icmp .ne 7, 3) := by decide +kernel
theorem dX8_told_105 : decode cX8_told 105 = .ok (.iload_n 3, 1) := by decide +kernel
theorem dX8_told_106 : decode cX8_told 106 = .ok (.goto 4, 3) := by decide +kernel
theorem dX8_told_109 : decode cX8_told 109 = .ok (.iconst (-1), 1) := by decide +kernel
theorem dX8_told_110 : decode cX8_told 110 = .ok (.ireturn, 1) := by decide +kernel
set_option maxRecDepth 20000 in
set_option maxRecDepth 100000 in
theorem ggX8_count_X8_in : GoodIn wsX8_count wsX8_in := goodIn_r _ [11] rfl (by decide +kernel)
set_option maxRecDepth 20000 in
theorem gX8_count_X8_in : GoodIn wsX8_count (va_wsS RX8 108 yX8_in wsX8_in) := goodIn_app (goodIn_of _ (by decide +kernel)) ggX8_count_X8_in
set_option maxRecDepth 20000 in
set_option maxRecDepth 100000 in
theorem ggX8_count_X8_isWare : GoodIn wsX8_count wsX8_isWare := goodIn_r _ [14, 8, 9, 10, 11] rfl (by decide +kernel)
set_option maxRecDepth 20000 in
theorem gX8_count_X8_isWare : GoodIn wsX8_count (va_wsS RX8 127 yX8_isWare wsX8_isWare) := goodIn_app (goodIn_of _ (by decide +kernel)) ggX8_count_X8_isWare
theorem dX8_count_0 : decode cX8_count 0 = .ok (.iload_n 2, 1) := by decide +kernel
theorem dX8_count_1 : decode cX8_count 1 = .ok (.iconst 0, 1) := by decide +kernel
theorem dX8_count_2 : decode cX8_count 2 = .ok (.iconst 5, 1) := by decide +kernel
theorem dX8_count_3 : decode cX8_count 3 = .ok (.invokestatic 108, 3) := by decide +kernel
theorem dX8_count_6 : decode cX8_count 6 = .ok (.ifCond .ne 5, 3) := by decide +kernel
theorem dX8_count_9 : decode cX8_count 9 = .ok (.iconst (-1), 1) := by decide +kernel
theorem dX8_count_10 : decode cX8_count 10 = .ok (.ireturn, 1) := by decide +kernel
theorem dX8_count_11 : decode cX8_count 11 = .ok (.iload_n 1, 1) := by decide +kernel
theorem dX8_count_12 : decode cX8_count 12 = .ok (.invokestatic 127, 3) := by decide +kernel
theorem dX8_count_15 : decode cX8_count 15 = .ok (.ifCond .eq 15, 3) := by decide +kernel
theorem dX8_count_18 : decode cX8_count 18 = .ok (.aload_n 0, 1) := by decide +kernel
theorem dX8_count_19 : decode cX8_count 19 = .ok (.getfield 98, 3) := by decide +kernel
theorem dX8_count_22 : decode cX8_count 22 = .ok (.bipush 6, 2) := by decide +kernel
theorem dX8_count_24 : decode cX8_count 24 = .ok (.iload_n 2, 1) := by decide +kernel
theorem dX8_count_25 : decode cX8_count 25 = .ok (.imul, 1) := by decide +kernel
theorem dX8_count_26 : decode cX8_count 26 = .ok (.iload_n 1, 1) := by decide +kernel
theorem dX8_count_27 : decode cX8_count 27 = .ok (.iadd, 1) := by decide +kernel
theorem dX8_count_28 : decode cX8_count 28 = .ok (.iaload, 1) := by decide +kernel
theorem dX8_count_29 : decode cX8_count 29 = .ok (.ireturn, 1) := by decide +kernel
theorem dX8_count_30 : decode cX8_count 30 = .ok (.iload_n 1, 1) := by decide +kernel
theorem dX8_count_31 : decode cX8_count 31 = .ok (.iconst (-1), 1) := by decide +kernel
theorem dX8_count_32 : decode cX8_count 32 = .ok (.if_icmp .eq 5, 3) := by decide +kernel
theorem dX8_count_35 : decode cX8_count 35 = .ok (.iconst (-1), 1) := by decide +kernel
theorem dX8_count_36 : decode cX8_count 36 = .ok (.ireturn, 1) := by decide +kernel
theorem dX8_count_37 : decode cX8_count 37 = .ok (.iload_n 2, 1) := by decide +kernel
theorem dX8_count_38 : decode cX8_count 38 = .ok (.tableswitch 59 0 4 #[34, 39, 44, 49, 54], 34) := by decide +kernel
theorem dX8_count_72 : decode cX8_count 72 = .ok (.aload_n 0, 1) := by decide +kernel
theorem dX8_count_73 : decode cX8_count 73 = .ok (.getfield 137, 3) := by decide +kernel
theorem dX8_count_76 : decode cX8_count 76 = .ok (.ireturn, 1) := by decide +kernel
theorem dX8_count_77 : decode cX8_count 77 = .ok (.aload_n 0, 1) := by decide +kernel
theorem dX8_count_78 : decode cX8_count 78 = .ok (.getfield 104, 3) := by decide +kernel
theorem dX8_count_81 : decode cX8_count 81 = .ok (.ireturn, 1) := by decide +kernel
theorem dX8_count_82 : decode cX8_count 82 = .ok (.aload_n 0, 1) := by decide +kernel
theorem dX8_count_83 : decode cX8_count 83 = .ok (.getfield 115, 3) := by decide +kernel
theorem dX8_count_86 : decode cX8_count 86 = .ok (.ireturn, 1) := by decide +kernel
theorem dX8_count_87 : decode cX8_count 87 = .ok (.aload_n 0, 1) := by decide +kernel
theorem dX8_count_88 : decode cX8_count 88 = .ok (.getfield 112, 3) := by decide +kernel
theorem dX8_count_91 : decode cX8_count 91 = .ok (.ireturn, 1) := by decide +kernel
theorem dX8_count_92 : decode cX8_count 92 = .ok (.aload_n 0, 1) := by decide +kernel
theorem dX8_count_93 : decode cX8_count 93 = .ok (.getfield 144, 3) := by decide +kernel
theorem dX8_count_96 : decode cX8_count 96 = .ok (.ireturn, 1) := by decide +kernel
theorem dX8_count_97 : decode cX8_count 97 = .ok (.aload_n 0, 1) := by decide +kernel
theorem dX8_count_98 : decode cX8_count 98 = .ok (.getfield 156, 3) := by decide +kernel
theorem dX8_count_101 : decode cX8_count 101 = .ok (.ireturn, 1) := by decide +kernel
theorem dJ9_min_7cf53_0 : decode cJ9_min_7cf53 0 = .ok (.iload_n 0, 1) := by decide +kernel
theorem dJ9_min_7cf53_1 : decode cJ9_min_7cf53 1 = .ok (.iload_n 1, 1) := by decide +kernel
theorem dJ9_min_7cf53_2 : decode cJ9_min_7cf53 2 = .ok (.if_icmp .gt 7, 3) := by decide +kernel
theorem dJ9_min_7cf53_5 : decode cJ9_min_7cf53 5 = .ok (.iload_n 0, 1) := by decide +kernel
theorem dJ9_min_7cf53_6 : decode cJ9_min_7cf53 6 = .ok (.goto 4, 3) := by decide +kernel
theorem dJ9_min_7cf53_9 : decode cJ9_min_7cf53 9 = .ok (.iload_n 1, 1) := by decide +kernel
theorem dJ9_min_7cf53_10 : decode cJ9_min_7cf53 10 = .ok (.ireturn, 1) := by decide +kernel
theorem dJ7_fill_53178_0 : decode cJ7_fill_53178 0 = .ok (.iconst 0, 1) := by decide +kernel
theorem dJ7_fill_53178_1 : decode cJ7_fill_53178 1 = .ok (.istore_n 2, 1) := by decide +kernel
theorem dJ7_fill_53178_2 : decode cJ7_fill_53178 2 = .ok (.aload_n 0, 1) := by decide +kernel
theorem dJ7_fill_53178_3 : decode cJ7_fill_53178 3 = .ok (.arraylength, 1) := by decide +kernel
theorem dJ7_fill_53178_4 : decode cJ7_fill_53178 4 = .ok (.istore_n 3, 1) := by decide +kernel
theorem dJ7_fill_53178_5 : decode cJ7_fill_53178 5 = .ok (.iload_n 2, 1) := by decide +kernel
theorem dJ7_fill_53178_6 : decode cJ7_fill_53178 6 = .ok (.iload_n 3, 1) := by decide +kernel
theorem dJ7_fill_53178_7 : decode cJ7_fill_53178 7 = .ok (.if_icmp .ge 13, 3) := by decide +kernel
theorem dJ7_fill_53178_10 : decode cJ7_fill_53178 10 = .ok (.aload_n 0, 1) := by decide +kernel
theorem dJ7_fill_53178_11 : decode cJ7_fill_53178 11 = .ok (.iload_n 2, 1) := by decide +kernel
theorem dJ7_fill_53178_12 : decode cJ7_fill_53178 12 = .ok (.iload_n 1, 1) := by decide +kernel
theorem dJ7_fill_53178_13 : decode cJ7_fill_53178 13 = .ok (.iastore, 1) := by decide +kernel
theorem dJ7_fill_53178_14 : decode cJ7_fill_53178 14 = .ok (.iinc 2 1, 3) := by decide +kernel
theorem dJ7_fill_53178_17 : decode cJ7_fill_53178 17 = .ok (.goto (-12), 3) := by decide +kernel
theorem dJ7_fill_53178_20 : decode cJ7_fill_53178 20 = .ok (.return_, 1) := by decide +kernel
theorem run_in {big l : List Cond} {ps : List Nat} (h : ∀ w ∈ l, w ∈ big) : ∀ w ∈ ps.filterMap (fun i => l[i]?), w ∈ big := fun w hw => by
  obtain ⟨i, -, hi⟩ := List.mem_filterMap.mp hw
  exact h w (List.mem_of_getElem? hi)
theorem wsL_law_r1_m : ∀ w ∈ wsL_law_r1, w ∈ wsL_law := fun _ h => List.mem_append_left _ (List.mem_append_left _ (List.mem_append_left _ (List.mem_append_left _ (List.mem_append_left _ (List.mem_append_left _ (List.mem_append_left _ (List.mem_append_left _ (List.mem_append_left _ (List.mem_append_left _ h)))))))))
theorem wsL_law_r2_m : ∀ w ∈ wsL_law_r2, w ∈ wsL_law := fun _ h => List.mem_append_left _ (List.mem_append_left _ (List.mem_append_left _ (List.mem_append_left _ (List.mem_append_left _ (List.mem_append_left _ (List.mem_append_left _ (List.mem_append_left _ (List.mem_append_left _ (List.mem_append_right _ (List.mem_append_left _ h))))))))))
theorem wsL_law_r3_m : ∀ w ∈ wsL_law_r3, w ∈ wsL_law := fun _ h => List.mem_append_left _ (List.mem_append_left _ (List.mem_append_left _ (List.mem_append_left _ (List.mem_append_left _ (List.mem_append_left _ (List.mem_append_left _ (List.mem_append_left _ (List.mem_append_left _ (List.mem_append_right _ (List.mem_append_right _ (List.mem_append_left _ h)))))))))))
theorem wsL_law_r4_m : ∀ w ∈ wsL_law_r4, w ∈ wsL_law := fun _ h => List.mem_append_left _ (List.mem_append_left _ (List.mem_append_left _ (List.mem_append_left _ (List.mem_append_left _ (List.mem_append_left _ (List.mem_append_left _ (List.mem_append_left _ (List.mem_append_left _ (List.mem_append_right _ (List.mem_append_right _ (List.mem_append_right _ (List.mem_append_left _ h))))))))))))
theorem wsL_law_r5_m : ∀ w ∈ wsL_law_r5, w ∈ wsL_law := fun _ h => List.mem_append_left _ (List.mem_append_left _ (List.mem_append_left _ (List.mem_append_left _ (List.mem_append_left _ (List.mem_append_left _ (List.mem_append_left _ (List.mem_append_left _ (List.mem_append_left _ (List.mem_append_right _ (List.mem_append_right _ (List.mem_append_right _ (List.mem_append_right _ (List.mem_append_left _ h)))))))))))))
theorem wsL_law_r6_m : ∀ w ∈ wsL_law_r6, w ∈ wsL_law := fun _ h => List.mem_append_left _ (List.mem_append_left _ (List.mem_append_left _ (List.mem_append_left _ (List.mem_append_left _ (List.mem_append_left _ (List.mem_append_left _ (List.mem_append_left _ (List.mem_append_left _ (List.mem_append_right _ (List.mem_append_right _ (List.mem_append_right _ (List.mem_append_right _ (List.mem_append_right _ (List.mem_append_left _ h))))))))))))))
theorem wsL_law_r7_m : ∀ w ∈ wsL_law_r7, w ∈ wsL_law := fun _ h => List.mem_append_left _ (List.mem_append_left _ (List.mem_append_left _ (List.mem_append_left _ (List.mem_append_left _ (List.mem_append_left _ (List.mem_append_left _ (List.mem_append_left _ (List.mem_append_left _ (List.mem_append_right _ (List.mem_append_right _ (List.mem_append_right _ (List.mem_append_right _ (List.mem_append_right _ (List.mem_append_right _ (List.mem_append_left _ h)))))))))))))))
theorem wsL_law_r8_m : ∀ w ∈ wsL_law_r8, w ∈ wsL_law := fun _ h => List.mem_append_left _ (List.mem_append_left _ (List.mem_append_left _ (List.mem_append_left _ (List.mem_append_left _ (List.mem_append_left _ (List.mem_append_left _ (List.mem_append_left _ (List.mem_append_left _ (List.mem_append_right _ (List.mem_append_right _ (List.mem_append_right _ (List.mem_append_right _ (List.mem_append_right _ (List.mem_append_right _ (List.mem_append_right _ (List.mem_append_left _ h))))))))))))))))
theorem wsL_law_r9_m : ∀ w ∈ wsL_law_r9, w ∈ wsL_law := fun _ h => List.mem_append_left _ (List.mem_append_left _ (List.mem_append_left _ (List.mem_append_left _ (List.mem_append_left _ (List.mem_append_left _ (List.mem_append_left _ (List.mem_append_left _ (List.mem_append_left _ (List.mem_append_right _ (List.mem_append_right _ (List.mem_append_right _ (List.mem_append_right _ (List.mem_append_right _ (List.mem_append_right _ (List.mem_append_right _ (List.mem_append_right _ (List.mem_append_left _ h)))))))))))))))))
theorem wsL_law_r10_m : ∀ w ∈ wsL_law_r10, w ∈ wsL_law := fun _ h => List.mem_append_left _ (List.mem_append_left _ (List.mem_append_left _ (List.mem_append_left _ (List.mem_append_left _ (List.mem_append_left _ (List.mem_append_left _ (List.mem_append_left _ (List.mem_append_left _ (List.mem_append_right _ (List.mem_append_right _ (List.mem_append_right _ (List.mem_append_right _ (List.mem_append_right _ (List.mem_append_right _ (List.mem_append_right _ (List.mem_append_right _ (List.mem_append_right _ (List.mem_append_left _ h))))))))))))))))))
theorem wsL_law_r11_m : ∀ w ∈ wsL_law_r11, w ∈ wsL_law := fun _ h => List.mem_append_left _ (List.mem_append_left _ (List.mem_append_left _ (List.mem_append_left _ (List.mem_append_left _ (List.mem_append_left _ (List.mem_append_left _ (List.mem_append_left _ (List.mem_append_left _ (List.mem_append_right _ (List.mem_append_right _ (List.mem_append_right _ (List.mem_append_right _ (List.mem_append_right _ (List.mem_append_right _ (List.mem_append_right _ (List.mem_append_right _ (List.mem_append_right _ (List.mem_append_right _ (List.mem_append_left _ h)))))))))))))))))))
theorem wsL_law_r12_m : ∀ w ∈ wsL_law_r12, w ∈ wsL_law := fun _ h => List.mem_append_left _ (List.mem_append_left _ (List.mem_append_left _ (List.mem_append_left _ (List.mem_append_left _ (List.mem_append_left _ (List.mem_append_left _ (List.mem_append_left _ (List.mem_append_left _ (List.mem_append_right _ (List.mem_append_right _ (List.mem_append_right _ (List.mem_append_right _ (List.mem_append_right _ (List.mem_append_right _ (List.mem_append_right _ (List.mem_append_right _ (List.mem_append_right _ (List.mem_append_right _ (List.mem_append_right _ (List.mem_append_left _ h))))))))))))))))))))
theorem wsL_law_r13_m : ∀ w ∈ wsL_law_r13, w ∈ wsL_law := fun _ h => List.mem_append_left _ (List.mem_append_left _ (List.mem_append_left _ (List.mem_append_left _ (List.mem_append_left _ (List.mem_append_left _ (List.mem_append_left _ (List.mem_append_left _ (List.mem_append_left _ (List.mem_append_right _ (List.mem_append_right _ (List.mem_append_right _ (List.mem_append_right _ (List.mem_append_right _ (List.mem_append_right _ (List.mem_append_right _ (List.mem_append_right _ (List.mem_append_right _ (List.mem_append_right _ (List.mem_append_right _ (List.mem_append_right _ (List.mem_append_left _ h)))))))))))))))))))))
theorem wsL_law_r14_m : ∀ w ∈ wsL_law_r14, w ∈ wsL_law := fun _ h => List.mem_append_left _ (List.mem_append_left _ (List.mem_append_left _ (List.mem_append_left _ (List.mem_append_left _ (List.mem_append_left _ (List.mem_append_left _ (List.mem_append_left _ (List.mem_append_left _ (List.mem_append_right _ (List.mem_append_right _ (List.mem_append_right _ (List.mem_append_right _ (List.mem_append_right _ (List.mem_append_right _ (List.mem_append_right _ (List.mem_append_right _ (List.mem_append_right _ (List.mem_append_right _ (List.mem_append_right _ (List.mem_append_right _ (List.mem_append_right _ (List.mem_append_left _ h))))))))))))))))))))))
theorem wsL_law_r15_m : ∀ w ∈ wsL_law_r15, w ∈ wsL_law := fun _ h => List.mem_append_left _ (List.mem_append_left _ (List.mem_append_left _ (List.mem_append_left _ (List.mem_append_left _ (List.mem_append_left _ (List.mem_append_left _ (List.mem_append_left _ (List.mem_append_left _ (List.mem_append_right _ (List.mem_append_right _ (List.mem_append_right _ (List.mem_append_right _ (List.mem_append_right _ (List.mem_append_right _ (List.mem_append_right _ (List.mem_append_right _ (List.mem_append_right _ (List.mem_append_right _ (List.mem_append_right _ (List.mem_append_right _ (List.mem_append_right _ (List.mem_append_right _ (List.mem_append_left _ h)))))))))))))))))))))))
theorem wsL_law_r16_m : ∀ w ∈ wsL_law_r16, w ∈ wsL_law := fun _ h => List.mem_append_left _ (List.mem_append_left _ (List.mem_append_left _ (List.mem_append_left _ (List.mem_append_left _ (List.mem_append_left _ (List.mem_append_left _ (List.mem_append_left _ (List.mem_append_left _ (List.mem_append_right _ (List.mem_append_right _ (List.mem_append_right _ (List.mem_append_right _ (List.mem_append_right _ (List.mem_append_right _ (List.mem_append_right _ (List.mem_append_right _ (List.mem_append_right _ (List.mem_append_right _ (List.mem_append_right _ (List.mem_append_right _ (List.mem_append_right _ (List.mem_append_right _ (List.mem_append_right _ (List.mem_append_left _ h))))))))))))))))))))))))
theorem wsL_law_r17_m : ∀ w ∈ wsL_law_r17, w ∈ wsL_law := fun _ h => List.mem_append_left _ (List.mem_append_left _ (List.mem_append_left _ (List.mem_append_left _ (List.mem_append_left _ (List.mem_append_left _ (List.mem_append_left _ (List.mem_append_left _ (List.mem_append_left _ (List.mem_append_right _ (List.mem_append_right _ (List.mem_append_right _ (List.mem_append_right _ (List.mem_append_right _ (List.mem_append_right _ (List.mem_append_right _ (List.mem_append_right _ (List.mem_append_right _ (List.mem_append_right _ (List.mem_append_right _ (List.mem_append_right _ (List.mem_append_right _ (List.mem_append_right _ (List.mem_append_right _ (List.mem_append_right _ (List.mem_append_left _ h)))))))))))))))))))))))))
theorem wsL_law_r18_m : ∀ w ∈ wsL_law_r18, w ∈ wsL_law := fun _ h => List.mem_append_left _ (List.mem_append_left _ (List.mem_append_left _ (List.mem_append_left _ (List.mem_append_left _ (List.mem_append_left _ (List.mem_append_left _ (List.mem_append_left _ (List.mem_append_left _ (List.mem_append_right _ (List.mem_append_right _ (List.mem_append_right _ (List.mem_append_right _ (List.mem_append_right _ (List.mem_append_right _ (List.mem_append_right _ (List.mem_append_right _ (List.mem_append_right _ (List.mem_append_right _ (List.mem_append_right _ (List.mem_append_right _ (List.mem_append_right _ (List.mem_append_right _ (List.mem_append_right _ (List.mem_append_right _ (List.mem_append_right _ (List.mem_append_left _ h))))))))))))))))))))))))))
theorem wsL_law_r19_m : ∀ w ∈ wsL_law_r19, w ∈ wsL_law := fun _ h => List.mem_append_left _ (List.mem_append_left _ (List.mem_append_left _ (List.mem_append_left _ (List.mem_append_left _ (List.mem_append_left _ (List.mem_append_left _ (List.mem_append_left _ (List.mem_append_left _ (List.mem_append_right _ (List.mem_append_right _ (List.mem_append_right _ (List.mem_append_right _ (List.mem_append_right _ (List.mem_append_right _ (List.mem_append_right _ (List.mem_append_right _ (List.mem_append_right _ (List.mem_append_right _ (List.mem_append_right _ (List.mem_append_right _ (List.mem_append_right _ (List.mem_append_right _ (List.mem_append_right _ (List.mem_append_right _ (List.mem_append_right _ (List.mem_append_right _ (List.mem_append_left _ h)))))))))))))))))))))))))))
theorem wsL_law_r20_m : ∀ w ∈ wsL_law_r20, w ∈ wsL_law := fun _ h => List.mem_append_left _ (List.mem_append_left _ (List.mem_append_left _ (List.mem_append_left _ (List.mem_append_left _ (List.mem_append_left _ (List.mem_append_left _ (List.mem_append_left _ (List.mem_append_left _ (List.mem_append_right _ (List.mem_append_right _ (List.mem_append_right _ (List.mem_append_right _ (List.mem_append_right _ (List.mem_append_right _ (List.mem_append_right _ (List.mem_append_right _ (List.mem_append_right _ (List.mem_append_right _ (List.mem_append_right _ (List.mem_append_right _ (List.mem_append_right _ (List.mem_append_right _ (List.mem_append_right _ (List.mem_append_right _ (List.mem_append_right _ (List.mem_append_right _ (List.mem_append_right _ (List.mem_append_left _ h))))))))))))))))))))))))))))
theorem wsL_law_r21_m : ∀ w ∈ wsL_law_r21, w ∈ wsL_law := fun _ h => List.mem_append_left _ (List.mem_append_left _ (List.mem_append_left _ (List.mem_append_left _ (List.mem_append_left _ (List.mem_append_left _ (List.mem_append_left _ (List.mem_append_left _ (List.mem_append_left _ (List.mem_append_right _ (List.mem_append_right _ (List.mem_append_right _ (List.mem_append_right _ (List.mem_append_right _ (List.mem_append_right _ (List.mem_append_right _ (List.mem_append_right _ (List.mem_append_right _ (List.mem_append_right _ (List.mem_append_right _ (List.mem_append_right _ (List.mem_append_right _ (List.mem_append_right _ (List.mem_append_right _ (List.mem_append_right _ (List.mem_append_right _ (List.mem_append_right _ (List.mem_append_right _ (List.mem_append_right _ (List.mem_append_left _ h)))))))))))))))))))))))))))))
theorem wsL_law_r22_m : ∀ w ∈ wsL_law_r22, w ∈ wsL_law := fun _ h => List.mem_append_left _ (List.mem_append_left _ (List.mem_append_left _ (List.mem_append_left _ (List.mem_append_left _ (List.mem_append_left _ (List.mem_append_left _ (List.mem_append_left _ (List.mem_append_left _ (List.mem_append_right _ (List.mem_append_right _ (List.mem_append_right _ (List.mem_append_right _ (List.mem_append_right _ (List.mem_append_right _ (List.mem_append_right _ (List.mem_append_right _ (List.mem_append_right _ (List.mem_append_right _ (List.mem_append_right _ (List.mem_append_right _ (List.mem_append_right _ (List.mem_append_right _ (List.mem_append_right _ (List.mem_append_right _ (List.mem_append_right _ (List.mem_append_right _ (List.mem_append_right _ (List.mem_append_right _ (List.mem_append_right _ (List.mem_append_left _ h))))))))))))))))))))))))))))))
theorem wsL_law_r23_m : ∀ w ∈ wsL_law_r23, w ∈ wsL_law := fun _ h => List.mem_append_left _ (List.mem_append_left _ (List.mem_append_left _ (List.mem_append_left _ (List.mem_append_left _ (List.mem_append_left _ (List.mem_append_left _ (List.mem_append_left _ (List.mem_append_left _ (List.mem_append_right _ (List.mem_append_right _ (List.mem_append_right _ (List.mem_append_right _ (List.mem_append_right _ (List.mem_append_right _ (List.mem_append_right _ (List.mem_append_right _ (List.mem_append_right _ (List.mem_append_right _ (List.mem_append_right _ (List.mem_append_right _ (List.mem_append_right _ (List.mem_append_right _ (List.mem_append_right _ (List.mem_append_right _ (List.mem_append_right _ (List.mem_append_right _ (List.mem_append_right _ (List.mem_append_right _ (List.mem_append_right _ (List.mem_append_right _ (List.mem_append_left _ h)))))))))))))))))))))))))))))))
theorem wsL_law_r24_m : ∀ w ∈ wsL_law_r24, w ∈ wsL_law := fun _ h => List.mem_append_left _ (List.mem_append_left _ (List.mem_append_left _ (List.mem_append_left _ (List.mem_append_left _ (List.mem_append_left _ (List.mem_append_left _ (List.mem_append_left _ (List.mem_append_left _ (List.mem_append_right _ (List.mem_append_right _ (List.mem_append_right _ (List.mem_append_right _ (List.mem_append_right _ (List.mem_append_right _ (List.mem_append_right _ (List.mem_append_right _ (List.mem_append_right _ (List.mem_append_right _ (List.mem_append_right _ (List.mem_append_right _ (List.mem_append_right _ (List.mem_append_right _ (List.mem_append_right _ (List.mem_append_right _ (List.mem_append_right _ (List.mem_append_right _ (List.mem_append_right _ (List.mem_append_right _ (List.mem_append_right _ (List.mem_append_right _ (List.mem_append_right _ (List.mem_append_left _ h))))))))))))))))))))))))))))))))
theorem wsL_law_r25_m : ∀ w ∈ wsL_law_r25, w ∈ wsL_law := fun _ h => List.mem_append_left _ (List.mem_append_left _ (List.mem_append_left _ (List.mem_append_left _ (List.mem_append_left _ (List.mem_append_left _ (List.mem_append_left _ (List.mem_append_left _ (List.mem_append_left _ (List.mem_append_right _ (List.mem_append_right _ (List.mem_append_right _ (List.mem_append_right _ (List.mem_append_right _ (List.mem_append_right _ (List.mem_append_right _ (List.mem_append_right _ (List.mem_append_right _ (List.mem_append_right _ (List.mem_append_right _ (List.mem_append_right _ (List.mem_append_right _ (List.mem_append_right _ (List.mem_append_right _ (List.mem_append_right _ (List.mem_append_right _ (List.mem_append_right _ (List.mem_append_right _ (List.mem_append_right _ (List.mem_append_right _ (List.mem_append_right _ (List.mem_append_right _ (List.mem_append_right _ (h)))))))))))))))))))))))))))))))))
theorem wsX70_m : ∀ w ∈ wsX70, w ∈ wsL_law := fun _ h => List.mem_append_left _ (List.mem_append_left _ (List.mem_append_left _ (List.mem_append_left _ (List.mem_append_left _ (List.mem_append_left _ (List.mem_append_left _ (List.mem_append_left _ (List.mem_append_right _ h))))))))
theorem wsX80_m : ∀ w ∈ wsX80, w ∈ wsL_law := fun _ h => List.mem_append_left _ (List.mem_append_left _ (List.mem_append_left _ (List.mem_append_left _ (List.mem_append_left _ (List.mem_append_left _ (List.mem_append_left _ (List.mem_append_right _ h)))))))
theorem wsX40_m : ∀ w ∈ wsX40, w ∈ wsL_law := fun _ h => List.mem_append_left _ (List.mem_append_left _ (List.mem_append_left _ (List.mem_append_left _ (List.mem_append_left _ (List.mem_append_left _ (List.mem_append_right _ h))))))
theorem wsX60_m : ∀ w ∈ wsX60, w ∈ wsL_law := fun _ h => List.mem_append_left _ (List.mem_append_left _ (List.mem_append_left _ (List.mem_append_left _ (List.mem_append_left _ (List.mem_append_right _ h)))))
theorem wsX00_m : ∀ w ∈ wsX00, w ∈ wsL_law := fun _ h => List.mem_append_left _ (List.mem_append_left _ (List.mem_append_left _ (List.mem_append_left _ (List.mem_append_right _ h))))
theorem wsX10_m : ∀ w ∈ wsX10, w ∈ wsL_law := fun _ h => List.mem_append_left _ (List.mem_append_left _ (List.mem_append_left _ (List.mem_append_right _ h)))
theorem wsX30_m : ∀ w ∈ wsX30, w ∈ wsL_law := fun _ h => List.mem_append_left _ (List.mem_append_left _ (List.mem_append_right _ h))
theorem wsX50_m : ∀ w ∈ wsX50, w ∈ wsL_law := fun _ h => List.mem_append_left _ (List.mem_append_right _ h)
set_option maxRecDepth 20000 in
set_option maxRecDepth 100000 in
theorem ggL_law_X7_init : GoodIn wsL_law wsX7_init := goodIn_sub (by rw [show wsX7_init = ([8, 9, 10, 11, 12, 13, 14, 15, 16, 17, 18, 19, 20, 21, 22, 23] : List Nat).filterMap (fun i => wsL_law_r1[i]?) ++ (([0, 1, 2, 3, 4, 5] : List Nat).filterMap (fun i => wsL_law_r2[i]?) ++ (([0, 1, 2, 3, 4, 5, 6, 7, 8, 9, 10, 11, 12, 13] : List Nat).filterMap (fun i => wsX70[i]?))) from rfl]; exact List.forall_mem_append.mpr ⟨run_in wsL_law_r1_m, List.forall_mem_append.mpr ⟨run_in wsL_law_r2_m, run_in wsX70_m⟩⟩) (by decide +kernel)
set_option maxRecDepth 20000 in
theorem gL_law_X7_init : GoodIn wsL_law (wsX7_init) := ggL_law_X7_init
set_option maxRecDepth 20000 in
set_option maxRecDepth 100000 in
theorem ggL_law_X8_init : GoodIn wsL_law wsX8_init := goodIn_sub (by rw [show wsX8_init = ([8, 9] : List Nat).filterMap (fun i => wsL_law_r2[i]?) ++ (([10, 11, 21] : List Nat).filterMap (fun i => wsL_law_r1[i]?) ++ (([10, 11, 12, 13, 14, 15, 16, 17, 18, 19, 20, 21, 22, 23] : List Nat).filterMap (fun i => wsL_law_r2[i]?) ++ (([0, 1, 2, 3, 4, 5, 6, 7, 8, 9, 10, 11, 12, 13, 14, 15, 16, 17] : List Nat).filterMap (fun i => wsL_law_r3[i]?) ++ (([0, 1, 2, 3, 4, 5, 6, 7, 8, 9, 10, 11, 12, 13, 14, 15, 16, 17, 18, 19, 20, 21, 22, 23, 24, 25, 26, 27, 28, 29, 30, 31, 32, 33, 34, 35, 36] : List Nat).filterMap (fun i => wsX80[i]?))))) from rfl]; exact List.forall_mem_append.mpr ⟨run_in wsL_law_r2_m, List.forall_mem_append.mpr ⟨run_in wsL_law_r1_m, List.forall_mem_append.mpr ⟨run_in wsL_law_r2_m, List.forall_mem_append.mpr ⟨run_in wsL_law_r3_m, run_in wsX80_m⟩⟩⟩⟩) (by decide +kernel)
set_option maxRecDepth 20000 in
theorem gL_law_X8_init : GoodIn wsL_law (wsX8_init) := ggL_law_X8_init
set_option maxRecDepth 20000 in
set_option maxRecDepth 100000 in
theorem ggL_law_X7_post : GoodIn wsL_law wsX7_post := goodIn_sub (by rw [show wsX7_post = ([21, 22] : List Nat).filterMap (fun i => wsL_law_r3[i]?) ++ (([13, 12] : List Nat).filterMap (fun i => wsL_law_r1[i]?) ++ (([23] : List Nat).filterMap (fun i => wsL_law_r3[i]?) ++ (([0, 1, 2, 3, 4] : List Nat).filterMap (fun i => wsL_law_r4[i]?) ++ (([10, 11, 21] : List Nat).filterMap (fun i => wsL_law_r1[i]?) ++ (([5, 6, 7, 8, 9, 10] : List Nat).filterMap (fun i => wsL_law_r4[i]?) ++ (([3, 4, 5] : List Nat).filterMap (fun i => wsL_law_r2[i]?) ++ (([0, 1, 2, 3, 4, 5, 6, 7, 8, 9, 10, 11, 12, 13] : List Nat).filterMap (fun i => wsX70[i]?) ++ (([0, 1, 2, 3] : List Nat).filterMap (fun i => wsX40[i]?))))))))) from rfl]; exact List.forall_mem_append.mpr ⟨run_in wsL_law_r3_m, List.forall_mem_append.mpr ⟨run_in wsL_law_r1_m, List.forall_mem_append.mpr ⟨run_in wsL_law_r3_m, List.forall_mem_append.mpr ⟨run_in wsL_law_r4_m, List.forall_mem_append.mpr ⟨run_in wsL_law_r1_m, List.forall_mem_append.mpr ⟨run_in wsL_law_r4_m, List.forall_mem_append.mpr ⟨run_in wsL_law_r2_m, List.forall_mem_append.mpr ⟨run_in wsX70_m, run_in wsX40_m⟩⟩⟩⟩⟩⟩⟩⟩) (by decide +kernel)
set_option maxRecDepth 20000 in
set_option maxRecDepth 100000 in
theorem gL_law_X7_post : GoodIn wsL_law (wsV RL 13 RX7 yX7_post wsX7_post) := goodIn_app (goodIn_sub (by rw [show ([.methodLink RL 13 yX7_post, .instanceMethod yX7_post, .selects RX7 yX7_post yX7_post, .initialized RX7] : List Cond) = ([18, 19, 20] : List Nat).filterMap (fun i => wsL_law_r3[i]?) ++ (([2] : List Nat).filterMap (fun i => wsL_law_r1[i]?)) from rfl]; exact List.forall_mem_append.mpr ⟨run_in wsL_law_r3_m, run_in wsL_law_r1_m⟩) (by decide +kernel)) ggL_law_X7_post
set_option maxRecDepth 20000 in
set_option maxRecDepth 100000 in
theorem ggL_law_X8_post : GoodIn wsL_law wsX8_post := goodIn_sub (by rw [show wsX8_post = ([14, 15] : List Nat).filterMap (fun i => wsL_law_r4[i]?) ++ (([0, 1, 2, 3, 4, 5, 6, 7, 8, 9, 10, 11, 12, 13, 14, 15, 16, 17, 18, 19, 20, 21, 22, 23, 24, 25, 26, 27, 28, 29, 30, 31, 32, 33, 34, 35, 36] : List Nat).filterMap (fun i => wsX80[i]?)) from rfl]; exact List.forall_mem_append.mpr ⟨run_in wsL_law_r4_m, run_in wsX80_m⟩) (by decide +kernel)
set_option maxRecDepth 20000 in
set_option maxRecDepth 100000 in
theorem gL_law_X8_post : GoodIn wsL_law (wsV RL 17 RX8 yX8_post wsX8_post) := goodIn_app (goodIn_sub (by rw [show ([.methodLink RL 17 yX8_post, .instanceMethod yX8_post, .selects RX8 yX8_post yX8_post, .initialized RX8] : List Cond) = ([11, 12, 13] : List Nat).filterMap (fun i => wsL_law_r4[i]?) ++ (([5] : List Nat).filterMap (fun i => wsL_law_r1[i]?)) from rfl]; exact List.forall_mem_append.mpr ⟨run_in wsL_law_r4_m, run_in wsL_law_r1_m⟩) (by decide +kernel)) ggL_law_X8_post
set_option maxRecDepth 20000 in
set_option maxRecDepth 100000 in
theorem ggL_law_X7_way : GoodIn wsL_law wsX7_way := goodIn_sub (by rw [show wsX7_way = ([19] : List Nat).filterMap (fun i => wsL_law_r4[i]?) ++ (([22] : List Nat).filterMap (fun i => wsL_law_r1[i]?) ++ (([20, 21] : List Nat).filterMap (fun i => wsL_law_r4[i]?) ++ (([15, 14] : List Nat).filterMap (fun i => wsL_law_r1[i]?) ++ (([22, 23] : List Nat).filterMap (fun i => wsL_law_r4[i]?) ++ (([0, 1, 2] : List Nat).filterMap (fun i => wsL_law_r5[i]?) ++ (([2] : List Nat).filterMap (fun i => wsL_law_r1[i]?) ++ (([3, 4, 5, 6, 7] : List Nat).filterMap (fun i => wsL_law_r5[i]?) ++ (([13] : List Nat).filterMap (fun i => wsL_law_r1[i]?) ++ (([8, 9, 10, 11, 12, 13, 14] : List Nat).filterMap (fun i => wsL_law_r5[i]?) ++ (([10, 11] : List Nat).filterMap (fun i => wsL_law_r1[i]?) ++ (([15, 16, 17, 18, 19, 20, 21, 22, 23] : List Nat).filterMap (fun i => wsL_law_r5[i]?) ++ (([0, 1, 2, 3, 4] : List Nat).filterMap (fun i => wsL_law_r6[i]?) ++ (([0, 1, 2, 3, 4, 5, 6, 7, 8, 9, 10, 11, 12, 13] : List Nat).filterMap (fun i => wsX70[i]?) ++ (([0, 1, 2, 3, 4, 5] : List Nat).filterMap (fun i => wsX60[i]?))))))))))))))) from rfl]; exact List.forall_mem_append.mpr ⟨run_in wsL_law_r4_m, List.forall_mem_append.mpr ⟨run_in wsL_law_r1_m, List.forall_mem_append.mpr ⟨run_in wsL_law_r4_m, List.forall_mem_append.mpr ⟨run_in wsL_law_r1_m, List.forall_mem_append.mpr ⟨run_in wsL_law_r4_m, List.forall_mem_append.mpr ⟨run_in wsL_law_r5_m, List.forall_mem_append.mpr ⟨run_in wsL_law_r1_m, List.forall_mem_append.mpr ⟨run_in wsL_law_r5_m, List.forall_mem_append.mpr ⟨run_in wsL_law_r1_m, List.forall_mem_append.mpr ⟨run_in wsL_law_r5_m, List.forall_mem_append.mpr ⟨run_in wsL_law_r1_m, List.forall_mem_append.mpr ⟨run_in wsL_law_r5_m, List.forall_mem_append.mpr ⟨run_in wsL_law_r6_m, List.forall_mem_append.mpr ⟨run_in wsX70_m, run_in wsX60_m⟩⟩⟩⟩⟩⟩⟩⟩⟩⟩⟩⟩⟩⟩) (by decide +kernel)
set_option maxRecDepth 20000 in
set_option maxRecDepth 100000 in
theorem gL_law_X7_way : GoodIn wsL_law (wsV RL 18 RX7 yX7_way wsX7_way) := goodIn_app (goodIn_sub (by rw [show ([.methodLink RL 18 yX7_way, .instanceMethod yX7_way, .selects RX7 yX7_way yX7_way, .initialized RX7] : List Cond) = ([16, 17, 18] : List Nat).filterMap (fun i => wsL_law_r4[i]?) ++ (([2] : List Nat).filterMap (fun i => wsL_law_r1[i]?)) from rfl]; exact List.forall_mem_append.mpr ⟨run_in wsL_law_r4_m, run_in wsL_law_r1_m⟩) (by decide +kernel)) ggL_law_X7_way
set_option maxRecDepth 20000 in
set_option maxRecDepth 100000 in
theorem ggL_law_X8_way : GoodIn wsL_law wsX8_way := goodIn_sub (by rw [show wsX8_way = ([8, 9, 10] : List Nat).filterMap (fun i => wsL_law_r6[i]?) ++ (([13, 14, 15, 16, 17, 18] : List Nat).filterMap (fun i => wsL_law_r2[i]?) ++ (([11, 12] : List Nat).filterMap (fun i => wsL_law_r6[i]?) ++ (([5] : List Nat).filterMap (fun i => wsL_law_r1[i]?) ++ (([13, 14, 15, 16, 17] : List Nat).filterMap (fun i => wsL_law_r6[i]?) ++ (([15] : List Nat).filterMap (fun i => wsL_law_r4[i]?) ++ (([18, 19, 20, 21] : List Nat).filterMap (fun i => wsL_law_r6[i]?) ++ (([0, 1, 2, 3, 4, 5, 6, 7, 8, 9, 10, 11, 12, 13, 14, 15, 16, 17, 18, 19, 20, 21, 22, 23, 24, 25, 26, 27, 28, 29, 30, 31, 32, 33, 34, 35, 36] : List Nat).filterMap (fun i => wsX80[i]?)))))))) from rfl]; exact List.forall_mem_append.mpr ⟨run_in wsL_law_r6_m, List.forall_mem_append.mpr ⟨run_in wsL_law_r2_m, List.forall_mem_append.mpr ⟨run_in wsL_law_r6_m, List.forall_mem_append.mpr ⟨run_in wsL_law_r1_m, List.forall_mem_append.mpr ⟨run_in wsL_law_r6_m, List.forall_mem_append.mpr ⟨run_in wsL_law_r4_m, List.forall_mem_append.mpr ⟨run_in wsL_law_r6_m, run_in wsX80_m⟩⟩⟩⟩⟩⟩⟩) (by decide +kernel)
set_option maxRecDepth 20000 in
set_option maxRecDepth 100000 in
theorem gL_law_X8_way : GoodIn wsL_law (wsV RL 22 RX8 yX8_way wsX8_way) := goodIn_app (goodIn_sub (by rw [show ([.methodLink RL 22 yX8_way, .instanceMethod yX8_way, .selects RX8 yX8_way yX8_way, .initialized RX8] : List Cond) = ([5, 6, 7] : List Nat).filterMap (fun i => wsL_law_r6[i]?) ++ (([5] : List Nat).filterMap (fun i => wsL_law_r1[i]?)) from rfl]; exact List.forall_mem_append.mpr ⟨run_in wsL_law_r6_m, run_in wsL_law_r1_m⟩) (by decide +kernel)) ggL_law_X8_way
set_option maxRecDepth 20000 in
set_option maxRecDepth 100000 in
theorem ggL_law_X7_store : GoodIn wsL_law wsX7_store := goodIn_sub (by rw [show wsX7_store = ([1, 2, 3] : List Nat).filterMap (fun i => wsL_law_r7[i]?) ++ (([0] : List Nat).filterMap (fun i => wsL_law_r2[i]?) ++ (([4, 5, 6] : List Nat).filterMap (fun i => wsL_law_r5[i]?) ++ (([2] : List Nat).filterMap (fun i => wsL_law_r1[i]?) ++ (([7] : List Nat).filterMap (fun i => wsL_law_r5[i]?) ++ (([13] : List Nat).filterMap (fun i => wsL_law_r1[i]?) ++ (([4, 5, 6] : List Nat).filterMap (fun i => wsL_law_r7[i]?) ++ (([8, 9, 10] : List Nat).filterMap (fun i => wsL_law_r5[i]?) ++ (([0, 1, 2, 3] : List Nat).filterMap (fun i => wsX40[i]?) ++ (([0, 1, 2, 3, 4, 5, 6, 7, 8, 9, 10, 11, 12, 13] : List Nat).filterMap (fun i => wsX70[i]?)))))))))) from rfl]; exact List.forall_mem_append.mpr ⟨run_in wsL_law_r7_m, List.forall_mem_append.mpr ⟨run_in wsL_law_r2_m, List.forall_mem_append.mpr ⟨run_in wsL_law_r5_m, List.forall_mem_append.mpr ⟨run_in wsL_law_r1_m, List.forall_mem_append.mpr ⟨run_in wsL_law_r5_m, List.forall_mem_append.mpr ⟨run_in wsL_law_r1_m, List.forall_mem_append.mpr ⟨run_in wsL_law_r7_m, List.forall_mem_append.mpr ⟨run_in wsL_law_r5_m, List.forall_mem_append.mpr ⟨run_in wsX40_m, run_in wsX70_m⟩⟩⟩⟩⟩⟩⟩⟩⟩) (by decide +kernel)
set_option maxRecDepth 20000 in
set_option maxRecDepth 100000 in
theorem gL_law_X7_store : GoodIn wsL_law (wsV RL 23 RX7 yX7_store wsX7_store) := goodIn_app (goodIn_sub (by rw [show ([.methodLink RL 23 yX7_store, .instanceMethod yX7_store, .selects RX7 yX7_store yX7_store, .initialized RX7] : List Cond) = ([22, 23] : List Nat).filterMap (fun i => wsL_law_r6[i]?) ++ (([0] : List Nat).filterMap (fun i => wsL_law_r7[i]?) ++ (([2] : List Nat).filterMap (fun i => wsL_law_r1[i]?))) from rfl]; exact List.forall_mem_append.mpr ⟨run_in wsL_law_r6_m, List.forall_mem_append.mpr ⟨run_in wsL_law_r7_m, run_in wsL_law_r1_m⟩⟩) (by decide +kernel)) ggL_law_X7_store
set_option maxRecDepth 20000 in
set_option maxRecDepth 100000 in
theorem ggL_law_X8_store : GoodIn wsL_law wsX8_store := goodIn_sub (by rw [show wsX8_store = ([10, 11] : List Nat).filterMap (fun i => wsL_law_r7[i]?) ++ (([10] : List Nat).filterMap (fun i => wsL_law_r2[i]?) ++ (([14, 15, 16] : List Nat).filterMap (fun i => wsL_law_r6[i]?) ++ (([5] : List Nat).filterMap (fun i => wsL_law_r1[i]?) ++ (([17] : List Nat).filterMap (fun i => wsL_law_r6[i]?) ++ (([15] : List Nat).filterMap (fun i => wsL_law_r4[i]?) ++ (([11, 12, 13] : List Nat).filterMap (fun i => wsL_law_r6[i]?) ++ (([12, 13, 14, 15, 16, 17, 18, 19, 20, 21, 22] : List Nat).filterMap (fun i => wsL_law_r7[i]?) ++ (([16] : List Nat).filterMap (fun i => wsL_law_r3[i]?) ++ (([0, 1, 2, 3, 4, 5, 6, 7, 8, 9, 10, 11, 12, 13, 14, 15, 16, 17, 18, 19, 20, 21, 22, 23, 24, 25, 26, 27, 28, 29, 30, 31, 32, 33, 34, 35, 36] : List Nat).filterMap (fun i => wsX80[i]?)))))))))) from rfl]; exact List.forall_mem_append.mpr ⟨run_in wsL_law_r7_m, List.forall_mem_append.mpr ⟨run_in wsL_law_r2_m, List.forall_mem_append.mpr ⟨run_in wsL_law_r6_m, List.forall_mem_append.mpr ⟨run_in wsL_law_r1_m, List.forall_mem_append.mpr ⟨run_in wsL_law_r6_m, List.forall_mem_append.mpr ⟨run_in wsL_law_r4_m, List.forall_mem_append.mpr ⟨run_in wsL_law_r6_m, List.forall_mem_append.mpr ⟨run_in wsL_law_r7_m, List.forall_mem_append.mpr ⟨run_in wsL_law_r3_m, run_in wsX80_m⟩⟩⟩⟩⟩⟩⟩⟩⟩) (by decide +kernel)
set_option maxRecDepth 20000 in
set_option maxRecDepth 100000 in
theorem gL_law_X8_store : GoodIn wsL_law (wsV RL 27 RX8 yX8_store wsX8_store) := goodIn_app (goodIn_sub (by rw [show ([.methodLink RL 27 yX8_store, .instanceMethod yX8_store, .selects RX8 yX8_store yX8_store, .initialized RX8] : List Cond) = ([7, 8, 9] : List Nat).filterMap (fun i => wsL_law_r7[i]?) ++ (([5] : List Nat).filterMap (fun i => wsL_law_r1[i]?)) from rfl]; exact List.forall_mem_append.mpr ⟨run_in wsL_law_r7_m, run_in wsL_law_r1_m⟩) (by decide +kernel)) ggL_law_X8_store
set_option maxRecDepth 20000 in
set_option maxRecDepth 100000 in
theorem ggL_law_X7_load : GoodIn wsL_law wsX7_load := goodIn_sub (by rw [show wsX7_load = ([2] : List Nat).filterMap (fun i => wsL_law_r8[i]?) ++ (([1] : List Nat).filterMap (fun i => wsL_law_r2[i]?) ++ (([4, 5] : List Nat).filterMap (fun i => wsL_law_r7[i]?) ++ (([2] : List Nat).filterMap (fun i => wsL_law_r1[i]?) ++ (([6] : List Nat).filterMap (fun i => wsL_law_r7[i]?) ++ (([8, 9, 10] : List Nat).filterMap (fun i => wsL_law_r5[i]?) ++ (([0, 1, 2, 3, 4, 5, 6, 7, 8, 9, 10, 11, 12, 13] : List Nat).filterMap (fun i => wsX70[i]?))))))) from rfl]; exact List.forall_mem_append.mpr ⟨run_in wsL_law_r8_m, List.forall_mem_append.mpr ⟨run_in wsL_law_r2_m, List.forall_mem_append.mpr ⟨run_in wsL_law_r7_m, List.forall_mem_append.mpr ⟨run_in wsL_law_r1_m, List.forall_mem_append.mpr ⟨run_in wsL_law_r7_m, List.forall_mem_append.mpr ⟨run_in wsL_law_r5_m, run_in wsX70_m⟩⟩⟩⟩⟩⟩) (by decide +kernel)
set_option maxRecDepth 20000 in
set_option maxRecDepth 100000 in
theorem gL_law_X7_load : GoodIn wsL_law (wsV RL 28 RX7 yX7_load wsX7_load) := goodIn_app (goodIn_sub (by rw [show ([.methodLink RL 28 yX7_load, .instanceMethod yX7_load, .selects RX7 yX7_load yX7_load, .initialized RX7] : List Cond) = ([23] : List Nat).filterMap (fun i => wsL_law_r7[i]?) ++ (([0, 1] : List Nat).filterMap (fun i => wsL_law_r8[i]?) ++ (([2] : List Nat).filterMap (fun i => wsL_law_r1[i]?))) from rfl]; exact List.forall_mem_append.mpr ⟨run_in wsL_law_r7_m, List.forall_mem_append.mpr ⟨run_in wsL_law_r8_m, run_in wsL_law_r1_m⟩⟩) (by decide +kernel)) ggL_law_X7_load
set_option maxRecDepth 20000 in
set_option maxRecDepth 100000 in
theorem ggL_law_X8_load : GoodIn wsL_law wsX8_load := goodIn_sub (by rw [show wsX8_load = ([6] : List Nat).filterMap (fun i => wsL_law_r8[i]?) ++ (([19] : List Nat).filterMap (fun i => wsL_law_r2[i]?) ++ (([12, 13] : List Nat).filterMap (fun i => wsL_law_r7[i]?) ++ (([5] : List Nat).filterMap (fun i => wsL_law_r1[i]?) ++ (([14] : List Nat).filterMap (fun i => wsL_law_r7[i]?) ++ (([11, 12, 13] : List Nat).filterMap (fun i => wsL_law_r6[i]?) ++ (([0, 1, 2, 3, 4, 5, 6, 7, 8, 9, 10, 11, 12, 13, 14, 15, 16, 17, 18, 19, 20, 21, 22, 23, 24, 25, 26, 27, 28, 29, 30, 31, 32, 33, 34, 35, 36] : List Nat).filterMap (fun i => wsX80[i]?))))))) from rfl]; exact List.forall_mem_append.mpr ⟨run_in wsL_law_r8_m, List.forall_mem_append.mpr ⟨run_in wsL_law_r2_m, List.forall_mem_append.mpr ⟨run_in wsL_law_r7_m, List.forall_mem_append.mpr ⟨run_in wsL_law_r1_m, List.forall_mem_append.mpr ⟨run_in wsL_law_r7_m, List.forall_mem_append.mpr ⟨run_in wsL_law_r6_m, run_in wsX80_m⟩⟩⟩⟩⟩⟩) (by decide +kernel)
set_option maxRecDepth 20000 in
set_option maxRecDepth 100000 in
theorem gL_law_X8_load : GoodIn wsL_law (wsV RL 32 RX8 yX8_load wsX8_load) := goodIn_app (goodIn_sub (by rw [show ([.methodLink RL 32 yX8_load, .instanceMethod yX8_load, .selects RX8 yX8_load yX8_load, .initialized RX8] : List Cond) = ([3, 4, 5] : List Nat).filterMap (fun i => wsL_law_r8[i]?) ++ (([5] : List Nat).filterMap (fun i => wsL_law_r1[i]?)) from rfl]; exact List.forall_mem_append.mpr ⟨run_in wsL_law_r8_m, run_in wsL_law_r1_m⟩) (by decide +kernel)) ggL_law_X8_load
set_option maxRecDepth 20000 in
set_option maxRecDepth 100000 in
theorem ggL_law_X7_send : GoodIn wsL_law wsX7_send := goodIn_sub (by rw [show wsX7_send = ([10, 11, 12] : List Nat).filterMap (fun i => wsL_law_r8[i]?) ++ (([16] : List Nat).filterMap (fun i => wsL_law_r1[i]?) ++ (([13, 14, 15] : List Nat).filterMap (fun i => wsL_law_r8[i]?) ++ (([1] : List Nat).filterMap (fun i => wsL_law_r2[i]?) ++ (([16, 17, 18, 19, 20, 21] : List Nat).filterMap (fun i => wsL_law_r8[i]?) ++ (([17] : List Nat).filterMap (fun i => wsL_law_r1[i]?) ++ (([2] : List Nat).filterMap (fun i => wsL_law_r7[i]?) ++ (([22] : List Nat).filterMap (fun i => wsL_law_r8[i]?) ++ (([4, 5, 6] : List Nat).filterMap (fun i => wsL_law_r5[i]?) ++ (([2] : List Nat).filterMap (fun i => wsL_law_r1[i]?) ++ (([7] : List Nat).filterMap (fun i => wsL_law_r5[i]?) ++ (([13] : List Nat).filterMap (fun i => wsL_law_r1[i]?) ++ (([23] : List Nat).filterMap (fun i => wsL_law_r8[i]?) ++ (([0, 1, 2] : List Nat).filterMap (fun i => wsL_law_r9[i]?) ++ (([15] : List Nat).filterMap (fun i => wsL_law_r1[i]?) ++ (([3, 4, 5] : List Nat).filterMap (fun i => wsL_law_r9[i]?) ++ (([23] : List Nat).filterMap (fun i => wsL_law_r4[i]?) ++ (([6] : List Nat).filterMap (fun i => wsL_law_r9[i]?) ++ (([15, 16] : List Nat).filterMap (fun i => wsL_law_r5[i]?) ++ (([7, 8, 9, 10] : List Nat).filterMap (fun i => wsL_law_r9[i]?) ++ (([18, 19, 9, 10] : List Nat).filterMap (fun i => wsL_law_r5[i]?) ++ (([11, 12, 13, 14, 15, 16, 17, 18, 19, 20, 21, 22, 23] : List Nat).filterMap (fun i => wsL_law_r9[i]?) ++ (([10, 11] : List Nat).filterMap (fun i => wsL_law_r1[i]?) ++ (([0, 1, 2, 3, 4, 5, 6, 7, 8, 9, 10, 11, 12, 13, 14, 15, 16, 17, 18, 19, 20, 21, 22, 23] : List Nat).filterMap (fun i => wsL_law_r10[i]?) ++ (([0] : List Nat).filterMap (fun i => wsL_law_r11[i]?) ++ (([19] : List Nat).filterMap (fun i => wsL_law_r1[i]?) ++ (([1, 2, 3, 4] : List Nat).filterMap (fun i => wsL_law_r11[i]?) ++ (([22] : List Nat).filterMap (fun i => wsL_law_r1[i]?) ++ (([0, 1, 2, 3] : List Nat).filterMap (fun i => wsL_law_r5[i]?) ++ (([0, 1, 2, 3, 4, 5, 6, 7, 8, 9, 10, 11, 12, 13] : List Nat).filterMap (fun i => wsX70[i]?) ++ (([0, 1, 2, 3, 4, 5, 6, 7, 8, 9, 10] : List Nat).filterMap (fun i => wsX00[i]?) ++ (([0, 1, 2, 3, 4, 5] : List Nat).filterMap (fun i => wsX60[i]?) ++ (([0, 1, 2, 3] : List Nat).filterMap (fun i => wsX40[i]?) ++ (([0, 1, 2, 3, 4, 5] : List Nat).filterMap (fun i => wsX10[i]?) ++ (([0, 1, 2, 3, 4, 5] : List Nat).filterMap (fun i => wsX30[i]?) ++ (([0, 1, 2, 3, 4, 5] : List Nat).filterMap (fun i => wsX50[i]?)))))))))))))))))))))))))))))))))))) from rfl]; exact List.forall_mem_append.mpr ⟨run_in wsL_law_r8_m, List.forall_mem_append.mpr ⟨run_in wsL_law_r1_m, List.forall_mem_append.mpr ⟨run_in wsL_law_r8_m, List.forall_mem_append.mpr ⟨run_in wsL_law_r2_m, List.forall_mem_append.mpr ⟨run_in wsL_law_r8_m, List.forall_mem_append.mpr ⟨run_in wsL_law_r1_m, List.forall_mem_append.mpr ⟨run_in wsL_law_r7_m, List.forall_mem_append.mpr ⟨run_in wsL_law_r8_m, List.forall_mem_append.mpr ⟨run_in wsL_law_r5_m, List.forall_mem_append.mpr ⟨run_in wsL_law_r1_m, List.forall_mem_append.mpr ⟨run_in wsL_law_r5_m, List.forall_mem_append.mpr ⟨run_in wsL_law_r1_m, List.forall_mem_append.mpr ⟨run_in wsL_law_r8_m, List.forall_mem_append.mpr ⟨run_in wsL_law_r9_m, List.forall_mem_append.mpr ⟨run_in wsL_law_r1_m, List.forall_mem_append.mpr ⟨run_in wsL_law_r9_m, List.forall_mem_append.mpr ⟨run_in wsL_law_r4_m, List.forall_mem_append.mpr ⟨run_in wsL_law_r9_m, List.forall_mem_append.mpr ⟨run_in wsL_law_r5_m, List.forall_mem_append.mpr ⟨run_in wsL_law_r9_m, List.forall_mem_append.mpr ⟨run_in wsL_law_r5_m, List.forall_mem_append.mpr ⟨run_in wsL_law_r9_m, List.forall_mem_append.mpr ⟨run_in wsL_law_r1_m, List.forall_mem_append.mpr ⟨run_in wsL_law_r10_m, List.forall_mem_append.mpr ⟨run_in wsL_law_r11_m, List.forall_mem_append.mpr ⟨run_in wsL_law_r1_m, List.forall_mem_append.mpr ⟨run_in wsL_law_r11_m, List.forall_mem_append.mpr ⟨run_in wsL_law_r1_m, List.forall_mem_append.mpr ⟨run_in wsL_law_r5_m, List.forall_mem_append.mpr ⟨run_in wsX70_m, List.forall_mem_append.mpr ⟨run_in wsX00_m, List.forall_mem_append.mpr ⟨run_in wsX60_m, List.forall_mem_append.mpr ⟨run_in wsX40_m, List.forall_mem_append.mpr ⟨run_in wsX10_m, List.forall_mem_append.mpr ⟨run_in wsX30_m, run_in wsX50_m⟩⟩⟩⟩⟩⟩⟩⟩⟩⟩⟩⟩⟩⟩⟩⟩⟩⟩⟩⟩⟩⟩⟩⟩⟩⟩⟩⟩⟩⟩⟩⟩⟩⟩⟩) (by decide +kernel)
set_option maxRecDepth 20000 in
set_option maxRecDepth 100000 in
theorem gL_law_X7_send : GoodIn wsL_law (wsV RL 33 RX7 yX7_send wsX7_send) := goodIn_app (goodIn_sub (by rw [show ([.methodLink RL 33 yX7_send, .instanceMethod yX7_send, .selects RX7 yX7_send yX7_send, .initialized RX7] : List Cond) = ([7, 8, 9] : List Nat).filterMap (fun i => wsL_law_r8[i]?) ++ (([2] : List Nat).filterMap (fun i => wsL_law_r1[i]?)) from rfl]; exact List.forall_mem_append.mpr ⟨run_in wsL_law_r8_m, run_in wsL_law_r1_m⟩) (by decide +kernel)) ggL_law_X7_send
set_option maxRecDepth 20000 in
set_option maxRecDepth 100000 in
theorem ggL_law_X8_send : GoodIn wsL_law wsX8_send := goodIn_sub (by rw [show wsX8_send = ([8] : List Nat).filterMap (fun i => wsL_law_r11[i]?) ++ (([10] : List Nat).filterMap (fun i => wsL_law_r6[i]?) ++ (([13, 14, 19] : List Nat).filterMap (fun i => wsL_law_r2[i]?) ++ (([9] : List Nat).filterMap (fun i => wsL_law_r11[i]?) ++ (([18] : List Nat).filterMap (fun i => wsL_law_r2[i]?) ++ (([10] : List Nat).filterMap (fun i => wsL_law_r11[i]?) ++ (([20, 21, 22, 23, 15] : List Nat).filterMap (fun i => wsL_law_r2[i]?) ++ (([1, 2] : List Nat).filterMap (fun i => wsL_law_r3[i]?) ++ (([10] : List Nat).filterMap (fun i => wsL_law_r2[i]?) ++ (([4, 5] : List Nat).filterMap (fun i => wsL_law_r3[i]?) ++ (([11] : List Nat).filterMap (fun i => wsL_law_r11[i]?) ++ (([10, 9, 3] : List Nat).filterMap (fun i => wsL_law_r3[i]?) ++ (([14, 15, 16] : List Nat).filterMap (fun i => wsL_law_r6[i]?) ++ (([5] : List Nat).filterMap (fun i => wsL_law_r1[i]?) ++ (([17] : List Nat).filterMap (fun i => wsL_law_r6[i]?) ++ (([15] : List Nat).filterMap (fun i => wsL_law_r4[i]?) ++ (([11, 12, 13] : List Nat).filterMap (fun i => wsL_law_r6[i]?) ++ (([15, 16, 17, 18] : List Nat).filterMap (fun i => wsL_law_r7[i]?) ++ (([12, 13, 14, 15] : List Nat).filterMap (fun i => wsL_law_r11[i]?) ++ (([16, 17] : List Nat).filterMap (fun i => wsL_law_r2[i]?) ++ (([16, 17, 18, 19] : List Nat).filterMap (fun i => wsL_law_r11[i]?) ++ (([17] : List Nat).filterMap (fun i => wsL_law_r3[i]?) ++ (([18, 19, 20, 21] : List Nat).filterMap (fun i => wsL_law_r6[i]?) ++ (([0, 1, 2, 3, 4, 5, 6, 7, 8, 9, 10, 11, 12, 13, 14, 15, 16, 17, 18, 19, 20, 21, 22, 23, 24, 25, 26, 27, 28, 29, 30, 31, 32, 33, 34, 35, 36] : List Nat).filterMap (fun i => wsX80[i]?)))))))))))))))))))))))) from rfl]; exact List.forall_mem_append.mpr ⟨run_in wsL_law_r11_m, List.forall_mem_append.mpr ⟨run_in wsL_law_r6_m, List.forall_mem_append.mpr ⟨run_in wsL_law_r2_m, List.forall_mem_append.mpr ⟨run_in wsL_law_r11_m, List.forall_mem_append.mpr ⟨run_in wsL_law_r2_m, List.forall_mem_append.mpr ⟨run_in wsL_law_r11_m, List.forall_mem_append.mpr ⟨run_in wsL_law_r2_m, List.forall_mem_append.mpr ⟨run_in wsL_law_r3_m, List.forall_mem_append.mpr ⟨run_in wsL_law_r2_m, List.forall_mem_append.mpr ⟨run_in wsL_law_r3_m, List.forall_mem_append.mpr ⟨run_in wsL_law_r11_m, List.forall_mem_append.mpr ⟨run_in wsL_law_r3_m, List.forall_mem_append.mpr ⟨run_in wsL_law_r6_m, List.forall_mem_append.mpr ⟨run_in wsL_law_r1_m, List.forall_mem_append.mpr ⟨run_in wsL_law_r6_m, List.forall_mem_append.mpr ⟨run_in wsL_law_r4_m, List.forall_mem_append.mpr ⟨run_in wsL_law_r6_m, List.forall_mem_append.mpr ⟨run_in wsL_law_r7_m, List.forall_mem_append.mpr ⟨run_in wsL_law_r11_m, List.forall_mem_append.mpr ⟨run_in wsL_law_r2_m, List.forall_mem_append.mpr ⟨run_in wsL_law_r11_m, List.forall_mem_append.mpr ⟨run_in wsL_law_r3_m, List.forall_mem_append.mpr ⟨run_in wsL_law_r6_m, run_in wsX80_m⟩⟩⟩⟩⟩⟩⟩⟩⟩⟩⟩⟩⟩⟩⟩⟩⟩⟩⟩⟩⟩⟩⟩) (by decide +kernel)
set_option maxRecDepth 20000 in
set_option maxRecDepth 100000 in
theorem gL_law_X8_send : GoodIn wsL_law (wsV RL 37 RX8 yX8_send wsX8_send) := goodIn_app (goodIn_sub (by rw [show ([.methodLink RL 37 yX8_send, .instanceMethod yX8_send, .selects RX8 yX8_send yX8_send, .initialized RX8] : List Cond) = ([5, 6, 7] : List Nat).filterMap (fun i => wsL_law_r11[i]?) ++ (([5] : List Nat).filterMap (fun i => wsL_law_r1[i]?)) from rfl]; exact List.forall_mem_append.mpr ⟨run_in wsL_law_r11_m, run_in wsL_law_r1_m⟩) (by decide +kernel)) ggL_law_X8_send
set_option maxRecDepth 20000 in
set_option maxRecDepth 100000 in
theorem ggL_law_X7_lose : GoodIn wsL_law wsX7_lose := goodIn_sub (by rw [show wsX7_lose = ([23] : List Nat).filterMap (fun i => wsL_law_r11[i]?) ++ (([0, 1, 2] : List Nat).filterMap (fun i => wsL_law_r12[i]?) ++ (([0] : List Nat).filterMap (fun i => wsL_law_r2[i]?) ++ (([3, 4, 5] : List Nat).filterMap (fun i => wsL_law_r12[i]?) ++ (([2] : List Nat).filterMap (fun i => wsL_law_r1[i]?) ++ (([6] : List Nat).filterMap (fun i => wsL_law_r12[i]?) ++ (([17] : List Nat).filterMap (fun i => wsL_law_r1[i]?) ++ (([7, 8, 9, 10] : List Nat).filterMap (fun i => wsL_law_r12[i]?) ++ (([15, 20] : List Nat).filterMap (fun i => wsL_law_r10[i]?) ++ (([11, 12] : List Nat).filterMap (fun i => wsL_law_r12[i]?) ++ (([21, 22, 23] : List Nat).filterMap (fun i => wsL_law_r10[i]?) ++ (([0] : List Nat).filterMap (fun i => wsL_law_r11[i]?) ++ (([19] : List Nat).filterMap (fun i => wsL_law_r1[i]?) ++ (([0, 1, 2, 3, 4, 5, 6, 7, 8, 9, 10] : List Nat).filterMap (fun i => wsX00[i]?) ++ (([0, 1, 2, 3, 4, 5, 6, 7, 8, 9, 10, 11, 12, 13] : List Nat).filterMap (fun i => wsX70[i]?) ++ (([0, 1, 2, 3, 4, 5] : List Nat).filterMap (fun i => wsX10[i]?) ++ (([0, 1, 2, 3, 4, 5] : List Nat).filterMap (fun i => wsX30[i]?) ++ (([0, 1, 2, 3, 4, 5] : List Nat).filterMap (fun i => wsX50[i]?)))))))))))))))))) from rfl]; exact List.forall_mem_append.mpr ⟨run_in wsL_law_r11_m, List.forall_mem_append.mpr ⟨run_in wsL_law_r12_m, List.forall_mem_append.mpr ⟨run_in wsL_law_r2_m, List.forall_mem_append.mpr ⟨run_in wsL_law_r12_m, List.forall_mem_append.mpr ⟨run_in wsL_law_r1_m, List.forall_mem_append.mpr ⟨run_in wsL_law_r12_m, List.forall_mem_append.mpr ⟨run_in wsL_law_r1_m, List.forall_mem_append.mpr ⟨run_in wsL_law_r12_m, List.forall_mem_append.mpr ⟨run_in wsL_law_r10_m, List.forall_mem_append.mpr ⟨run_in wsL_law_r12_m, List.forall_mem_append.mpr ⟨run_in wsL_law_r10_m, List.forall_mem_append.mpr ⟨run_in wsL_law_r11_m, List.forall_mem_append.mpr ⟨run_in wsL_law_r1_m, List.forall_mem_append.mpr ⟨run_in wsX00_m, List.forall_mem_append.mpr ⟨run_in wsX70_m, List.forall_mem_append.mpr ⟨run_in wsX10_m, List.forall_mem_append.mpr ⟨run_in wsX30_m, run_in wsX50_m⟩⟩⟩⟩⟩⟩⟩⟩⟩⟩⟩⟩⟩⟩⟩⟩⟩) (by decide +kernel)
set_option maxRecDepth 20000 in
set_option maxRecDepth 100000 in
theorem gL_law_X7_lose : GoodIn wsL_law (wsV RL 38 RX7 yX7_lose wsX7_lose) := goodIn_app (goodIn_sub (by rw [show ([.methodLink RL 38 yX7_lose, .instanceMethod yX7_lose, .selects RX7 yX7_lose yX7_lose, .initialized RX7] : List Cond) = ([20, 21, 22] : List Nat).filterMap (fun i => wsL_law_r11[i]?) ++ (([2] : List Nat).filterMap (fun i => wsL_law_r1[i]?)) from rfl]; exact List.forall_mem_append.mpr ⟨run_in wsL_law_r11_m, run_in wsL_law_r1_m⟩) (by decide +kernel)) ggL_law_X7_lose
set_option maxRecDepth 20000 in
set_option maxRecDepth 100000 in
theorem ggL_law_X8_lose : GoodIn wsL_law wsX8_lose := goodIn_sub (by rw [show wsX8_lose = ([16] : List Nat).filterMap (fun i => wsL_law_r12[i]?) ++ (([4] : List Nat).filterMap (fun i => wsL_law_r3[i]?) ++ (([11] : List Nat).filterMap (fun i => wsL_law_r11[i]?) ++ (([10, 8] : List Nat).filterMap (fun i => wsL_law_r3[i]?) ++ (([17] : List Nat).filterMap (fun i => wsL_law_r12[i]?) ++ (([12, 0] : List Nat).filterMap (fun i => wsL_law_r3[i]?) ++ (([18, 19, 20] : List Nat).filterMap (fun i => wsL_law_r12[i]?) ++ (([5] : List Nat).filterMap (fun i => wsL_law_r1[i]?) ++ (([21, 22, 23] : List Nat).filterMap (fun i => wsL_law_r12[i]?) ++ (([0, 1] : List Nat).filterMap (fun i => wsL_law_r13[i]?) ++ (([10] : List Nat).filterMap (fun i => wsL_law_r11[i]?) ++ (([11, 12, 13] : List Nat).filterMap (fun i => wsL_law_r6[i]?) ++ (([19, 20, 21, 22] : List Nat).filterMap (fun i => wsL_law_r7[i]?) ++ (([16] : List Nat).filterMap (fun i => wsL_law_r3[i]?) ++ (([0, 1, 2, 3, 4, 5, 6, 7, 8, 9, 10, 11, 12, 13, 14, 15, 16, 17, 18, 19, 20, 21, 22, 23, 24, 25, 26, 27, 28, 29, 30, 31, 32, 33, 34, 35, 36] : List Nat).filterMap (fun i => wsX80[i]?))))))))))))))) from rfl]; exact List.forall_mem_append.mpr ⟨run_in wsL_law_r12_m, List.forall_mem_append.mpr ⟨run_in wsL_law_r3_m, List.forall_mem_append.mpr ⟨run_in wsL_law_r11_m, List.forall_mem_append.mpr ⟨run_in wsL_law_r3_m, List.forall_mem_append.mpr ⟨run_in wsL_law_r12_m, List.forall_mem_append.mpr ⟨run_in wsL_law_r3_m, List.forall_mem_append.mpr ⟨run_in wsL_law_r12_m, List.forall_mem_append.mpr ⟨run_in wsL_law_r1_m, List.forall_mem_append.mpr ⟨run_in wsL_law_r12_m, List.forall_mem_append.mpr ⟨run_in wsL_law_r13_m, List.forall_mem_append.mpr ⟨run_in wsL_law_r11_m, List.forall_mem_append.mpr ⟨run_in wsL_law_r6_m, List.forall_mem_append.mpr ⟨run_in wsL_law_r7_m, List.forall_mem_append.mpr ⟨run_in wsL_law_r3_m, run_in wsX80_m⟩⟩⟩⟩⟩⟩⟩⟩⟩⟩⟩⟩⟩⟩) (by decide +kernel)
set_option maxRecDepth 20000 in
set_option maxRecDepth 100000 in
theorem gL_law_X8_lose : GoodIn wsL_law (wsV RL 42 RX8 yX8_lose wsX8_lose) := goodIn_app (goodIn_sub (by rw [show ([.methodLink RL 42 yX8_lose, .instanceMethod yX8_lose, .selects RX8 yX8_lose yX8_lose, .initialized RX8] : List Cond) = ([13, 14, 15] : List Nat).filterMap (fun i => wsL_law_r12[i]?) ++ (([5] : List Nat).filterMap (fun i => wsL_law_r1[i]?)) from rfl]; exact List.forall_mem_append.mpr ⟨run_in wsL_law_r12_m, run_in wsL_law_r1_m⟩) (by decide +kernel)) ggL_law_X8_lose
set_option maxRecDepth 20000 in
set_option maxRecDepth 100000 in
theorem ggL_law_X7_spoil : GoodIn wsL_law wsX7_spoil := goodIn_sub (by rw [show wsX7_spoil = ([5] : List Nat).filterMap (fun i => wsL_law_r13[i]?) ++ (([0, 2] : List Nat).filterMap (fun i => wsL_law_r12[i]?) ++ (([6] : List Nat).filterMap (fun i => wsL_law_r13[i]?) ++ (([0] : List Nat).filterMap (fun i => wsL_law_r2[i]?) ++ (([3, 4, 5] : List Nat).filterMap (fun i => wsL_law_r12[i]?) ++ (([2] : List Nat).filterMap (fun i => wsL_law_r1[i]?) ++ (([6] : List Nat).filterMap (fun i => wsL_law_r12[i]?) ++ (([17] : List Nat).filterMap (fun i => wsL_law_r1[i]?) ++ (([4, 5, 6] : List Nat).filterMap (fun i => wsL_law_r7[i]?) ++ (([8, 9, 10] : List Nat).filterMap (fun i => wsL_law_r5[i]?) ++ (([0, 1, 2, 3, 4, 5, 6, 7, 8, 9, 10] : List Nat).filterMap (fun i => wsX00[i]?) ++ (([0, 1, 2, 3, 4, 5, 6, 7, 8, 9, 10, 11, 12, 13] : List Nat).filterMap (fun i => wsX70[i]?)))))))))))) from rfl]; exact List.forall_mem_append.mpr ⟨run_in wsL_law_r13_m, List.forall_mem_append.mpr ⟨run_in wsL_law_r12_m, List.forall_mem_append.mpr ⟨run_in wsL_law_r13_m, List.forall_mem_append.mpr ⟨run_in wsL_law_r2_m, List.forall_mem_append.mpr ⟨run_in wsL_law_r12_m, List.forall_mem_append.mpr ⟨run_in wsL_law_r1_m, List.forall_mem_append.mpr ⟨run_in wsL_law_r12_m, List.forall_mem_append.mpr ⟨run_in wsL_law_r1_m, List.forall_mem_append.mpr ⟨run_in wsL_law_r7_m, List.forall_mem_append.mpr ⟨run_in wsL_law_r5_m, List.forall_mem_append.mpr ⟨run_in wsX00_m, run_in wsX70_m⟩⟩⟩⟩⟩⟩⟩⟩⟩⟩⟩) (by decide +kernel)
set_option maxRecDepth 20000 in
set_option maxRecDepth 100000 in
theorem gL_law_X7_spoil : GoodIn wsL_law (wsV RL 43 RX7 yX7_spoil wsX7_spoil) := goodIn_app (goodIn_sub (by rw [show ([.methodLink RL 43 yX7_spoil, .instanceMethod yX7_spoil, .selects RX7 yX7_spoil yX7_spoil, .initialized RX7] : List Cond) = ([2, 3, 4] : List Nat).filterMap (fun i => wsL_law_r13[i]?) ++ (([2] : List Nat).filterMap (fun i => wsL_law_r1[i]?)) from rfl]; exact List.forall_mem_append.mpr ⟨run_in wsL_law_r13_m, run_in wsL_law_r1_m⟩) (by decide +kernel)) ggL_law_X7_spoil
set_option maxRecDepth 20000 in
set_option maxRecDepth 100000 in
theorem ggL_law_X8_spoil : GoodIn wsL_law wsX8_spoil := goodIn_sub (by rw [show wsX8_spoil = ([10] : List Nat).filterMap (fun i => wsL_law_r13[i]?) ++ (([4] : List Nat).filterMap (fun i => wsL_law_r3[i]?) ++ (([18, 19, 20] : List Nat).filterMap (fun i => wsL_law_r12[i]?) ++ (([5] : List Nat).filterMap (fun i => wsL_law_r1[i]?) ++ (([21] : List Nat).filterMap (fun i => wsL_law_r12[i]?) ++ (([0] : List Nat).filterMap (fun i => wsL_law_r3[i]?) ++ (([22, 23] : List Nat).filterMap (fun i => wsL_law_r12[i]?) ++ (([0, 1] : List Nat).filterMap (fun i => wsL_law_r13[i]?) ++ (([10] : List Nat).filterMap (fun i => wsL_law_r11[i]?) ++ (([11, 12, 13] : List Nat).filterMap (fun i => wsL_law_r6[i]?) ++ (([12, 13, 14, 19, 20, 21, 22] : List Nat).filterMap (fun i => wsL_law_r7[i]?) ++ (([16] : List Nat).filterMap (fun i => wsL_law_r3[i]?) ++ (([0, 1, 2, 3, 4, 5, 6, 7, 8, 9, 10, 11, 12, 13, 14, 15, 16, 17, 18, 19, 20, 21, 22, 23, 24, 25, 26, 27, 28, 29, 30, 31, 32, 33, 34, 35, 36] : List Nat).filterMap (fun i => wsX80[i]?))))))))))))) from rfl]; exact List.forall_mem_append.mpr ⟨run_in wsL_law_r13_m, List.forall_mem_append.mpr ⟨run_in wsL_law_r3_m, List.forall_mem_append.mpr ⟨run_in wsL_law_r12_m, List.forall_mem_append.mpr ⟨run_in wsL_law_r1_m, List.forall_mem_append.mpr ⟨run_in wsL_law_r12_m, List.forall_mem_append.mpr ⟨run_in wsL_law_r3_m, List.forall_mem_append.mpr ⟨run_in wsL_law_r12_m, List.forall_mem_append.mpr ⟨run_in wsL_law_r13_m, List.forall_mem_append.mpr ⟨run_in wsL_law_r11_m, List.forall_mem_append.mpr ⟨run_in wsL_law_r6_m, List.forall_mem_append.mpr ⟨run_in wsL_law_r7_m, List.forall_mem_append.mpr ⟨run_in wsL_law_r3_m, run_in wsX80_m⟩⟩⟩⟩⟩⟩⟩⟩⟩⟩⟩⟩) (by decide +kernel)
set_option maxRecDepth 20000 in
set_option maxRecDepth 100000 in
theorem gL_law_X8_spoil : GoodIn wsL_law (wsV RL 47 RX8 yX8_spoil wsX8_spoil) := goodIn_app (goodIn_sub (by rw [show ([.methodLink RL 47 yX8_spoil, .instanceMethod yX8_spoil, .selects RX8 yX8_spoil yX8_spoil, .initialized RX8] : List Cond) = ([7, 8, 9] : List Nat).filterMap (fun i => wsL_law_r13[i]?) ++ (([5] : List Nat).filterMap (fun i => wsL_law_r1[i]?)) from rfl]; exact List.forall_mem_append.mpr ⟨run_in wsL_law_r13_m, run_in wsL_law_r1_m⟩) (by decide +kernel)) ggL_law_X8_spoil
set_option maxRecDepth 20000 in
set_option maxRecDepth 100000 in
theorem ggL_law_X7_go : GoodIn wsL_law wsX7_go := goodIn_sub (by rw [show wsX7_go = ([14] : List Nat).filterMap (fun i => wsL_law_r13[i]?) ++ (([11, 12] : List Nat).filterMap (fun i => wsL_law_r8[i]?) ++ (([8, 9] : List Nat).filterMap (fun i => wsL_law_r5[i]?) ++ (([2] : List Nat).filterMap (fun i => wsL_law_r1[i]?) ++ (([10] : List Nat).filterMap (fun i => wsL_law_r5[i]?) ++ (([15, 16, 17, 18] : List Nat).filterMap (fun i => wsL_law_r13[i]?) ++ (([0] : List Nat).filterMap (fun i => wsL_law_r12[i]?) ++ (([19] : List Nat).filterMap (fun i => wsL_law_r13[i]?) ++ (([19] : List Nat).filterMap (fun i => wsL_law_r10[i]?) ++ (([1, 3, 4, 5, 6] : List Nat).filterMap (fun i => wsL_law_r12[i]?) ++ (([17] : List Nat).filterMap (fun i => wsL_law_r1[i]?) ++ (([23] : List Nat).filterMap (fun i => wsL_law_r8[i]?) ++ (([0, 1, 2] : List Nat).filterMap (fun i => wsL_law_r9[i]?) ++ (([15] : List Nat).filterMap (fun i => wsL_law_r1[i]?) ++ (([4, 5, 6, 7] : List Nat).filterMap (fun i => wsL_law_r5[i]?) ++ (([13] : List Nat).filterMap (fun i => wsL_law_r1[i]?) ++ (([7, 8, 9] : List Nat).filterMap (fun i => wsL_law_r9[i]?) ++ (([23] : List Nat).filterMap (fun i => wsL_law_r4[i]?) ++ (([10] : List Nat).filterMap (fun i => wsL_law_r9[i]?) ++ (([18, 19] : List Nat).filterMap (fun i => wsL_law_r5[i]?) ++ (([20, 21, 22, 23] : List Nat).filterMap (fun i => wsL_law_r13[i]?) ++ (([0] : List Nat).filterMap (fun i => wsL_law_r14[i]?) ++ (([2] : List Nat).filterMap (fun i => wsL_law_r7[i]?) ++ (([2] : List Nat).filterMap (fun i => wsL_law_r12[i]?) ++ (([1, 2, 3, 4] : List Nat).filterMap (fun i => wsL_law_r14[i]?) ++ (([15, 20, 18, 16, 21, 22, 23] : List Nat).filterMap (fun i => wsL_law_r10[i]?) ++ (([0] : List Nat).filterMap (fun i => wsL_law_r11[i]?) ++ (([19] : List Nat).filterMap (fun i => wsL_law_r1[i]?) ++ (([5, 6, 7, 8, 9, 10, 11, 12, 13, 14, 15, 16, 17, 18, 19, 20, 21, 22] : List Nat).filterMap (fun i => wsL_law_r14[i]?) ++ (([5, 6] : List Nat).filterMap (fun i => wsL_law_r7[i]?) ++ (([23] : List Nat).filterMap (fun i => wsL_law_r14[i]?) ++ (([0, 1, 2, 3, 4, 5, 6, 7, 8, 9] : List Nat).filterMap (fun i => wsL_law_r15[i]?) ++ (([0] : List Nat).filterMap (fun i => wsL_law_r4[i]?) ++ (([10] : List Nat).filterMap (fun i => wsL_law_r15[i]?) ++ (([9] : List Nat).filterMap (fun i => wsL_law_r4[i]?) ++ (([0, 1, 2, 3, 4, 5, 6, 7, 8, 9, 10, 11, 12, 13] : List Nat).filterMap (fun i => wsX70[i]?) ++ (([0, 1, 2, 3, 4, 5, 6, 7, 8, 9, 10] : List Nat).filterMap (fun i => wsX00[i]?) ++ (([0, 1, 2, 3, 4, 5] : List Nat).filterMap (fun i => wsX60[i]?) ++ (([0, 1, 2, 3] : List Nat).filterMap (fun i => wsX40[i]?) ++ (([0, 1, 2, 3, 4, 5] : List Nat).filterMap (fun i => wsX10[i]?) ++ (([0, 1, 2, 3, 4, 5] : List Nat).filterMap (fun i => wsX30[i]?) ++ (([0, 1, 2, 3, 4, 5] : List Nat).filterMap (fun i => wsX50[i]?)))))))))))))))))))))))))))))))))))))))))) from rfl]; exact List.forall_mem_append.mpr ⟨run_in wsL_law_r13_m, List.forall_mem_append.mpr ⟨run_in wsL_law_r8_m, List.forall_mem_append.mpr ⟨run_in wsL_law_r5_m, List.forall_mem_append.mpr ⟨run_in wsL_law_r1_m, List.forall_mem_append.mpr ⟨run_in wsL_law_r5_m, List.forall_mem_append.mpr ⟨run_in wsL_law_r13_m, List.forall_mem_append.mpr ⟨run_in wsL_law_r12_m, List.forall_mem_append.mpr ⟨run_in wsL_law_r13_m, List.forall_mem_append.mpr ⟨run_in wsL_law_r10_m, List.forall_mem_append.mpr ⟨run_in wsL_law_r12_m, List.forall_mem_append.mpr ⟨run_in wsL_law_r1_m, List.forall_mem_append.mpr ⟨run_in wsL_law_r8_m, List.forall_mem_append.mpr ⟨run_in wsL_law_r9_m, List.forall_mem_append.mpr ⟨run_in wsL_law_r1_m, List.forall_mem_append.mpr ⟨run_in wsL_law_r5_m, List.forall_mem_append.mpr ⟨run_in wsL_law_r1_m, List.forall_mem_append.mpr ⟨run_in wsL_law_r9_m, List.forall_mem_append.mpr ⟨run_in wsL_law_r4_m, List.forall_mem_append.mpr ⟨run_in wsL_law_r9_m, List.forall_mem_append.mpr ⟨run_in wsL_law_r5_m, List.forall_mem_append.mpr ⟨run_in wsL_law_r13_m, List.forall_mem_append.mpr ⟨run_in wsL_law_r14_m, List.forall_mem_append.mpr ⟨run_in wsL_law_r7_m, List.forall_mem_append.mpr ⟨run_in wsL_law_r12_m, List.forall_mem_append.mpr ⟨run_in wsL_law_r14_m, List.forall_mem_append.mpr ⟨run_in wsL_law_r10_m, List.forall_mem_append.mpr ⟨run_in wsL_law_r11_m, List.forall_mem_append.mpr ⟨run_in wsL_law_r1_m, List.forall_mem_append.mpr ⟨run_in wsL_law_r14_m, List.forall_mem_append.mpr ⟨run_in wsL_law_r7_m, List.forall_mem_append.mpr ⟨run_in wsL_law_r14_m, List.forall_mem_append.mpr ⟨run_in wsL_law_r15_m, List.forall_mem_append.mpr ⟨run_in wsL_law_r4_m, List.forall_mem_append.mpr ⟨run_in wsL_law_r15_m, List.forall_mem_append.mpr ⟨run_in wsL_law_r4_m, List.forall_mem_append.mpr ⟨run_in wsX70_m, List.forall_mem_append.mpr ⟨run_in wsX00_m, List.forall_mem_append.mpr ⟨run_in wsX60_m, List.forall_mem_append.mpr ⟨run_in wsX40_m, List.forall_mem_append.mpr ⟨run_in wsX10_m, List.forall_mem_append.mpr ⟨run_in wsX30_m, run_in wsX50_m⟩⟩⟩⟩⟩⟩⟩⟩⟩⟩⟩⟩⟩⟩⟩⟩⟩⟩⟩⟩⟩⟩⟩⟩⟩⟩⟩⟩⟩⟩⟩⟩⟩⟩⟩⟩⟩⟩⟩⟩⟩) (by decide +kernel)
set_option maxRecDepth 20000 in
set_option maxRecDepth 100000 in
theorem gL_law_X7_go : GoodIn wsL_law (wsV RL 48 RX7 yX7_go wsX7_go) := goodIn_app (goodIn_sub (by rw [show ([.methodLink RL 48 yX7_go, .instanceMethod yX7_go, .selects RX7 yX7_go yX7_go, .initialized RX7] : List Cond) = ([11, 12, 13] : List Nat).filterMap (fun i => wsL_law_r13[i]?) ++ (([2] : List Nat).filterMap (fun i => wsL_law_r1[i]?)) from rfl]; exact List.forall_mem_append.mpr ⟨run_in wsL_law_r13_m, run_in wsL_law_r1_m⟩) (by decide +kernel)) ggL_law_X7_go
set_option maxRecDepth 20000 in
set_option maxRecDepth 100000 in
theorem ggL_law_X8_go : GoodIn wsL_law wsX8_go := goodIn_sub (by rw [show wsX8_go = ([14] : List Nat).filterMap (fun i => wsL_law_r15[i]?) ++ (([9, 10] : List Nat).filterMap (fun i => wsL_law_r11[i]?) ++ (([0] : List Nat).filterMap (fun i => wsL_law_r3[i]?) ++ (([22, 23] : List Nat).filterMap (fun i => wsL_law_r2[i]?) ++ (([11, 12] : List Nat).filterMap (fun i => wsL_law_r6[i]?) ++ (([5] : List Nat).filterMap (fun i => wsL_law_r1[i]?) ++ (([13] : List Nat).filterMap (fun i => wsL_law_r6[i]?) ++ (([12, 13, 14, 15] : List Nat).filterMap (fun i => wsL_law_r11[i]?) ++ (([16, 17] : List Nat).filterMap (fun i => wsL_law_r2[i]?) ++ (([15, 16, 17, 18] : List Nat).filterMap (fun i => wsL_law_r15[i]?) ++ (([2, 4, 5, 7] : List Nat).filterMap (fun i => wsL_law_r3[i]?) ++ (([10, 21] : List Nat).filterMap (fun i => wsL_law_r2[i]?) ++ (([11] : List Nat).filterMap (fun i => wsL_law_r11[i]?) ++ (([10, 9] : List Nat).filterMap (fun i => wsL_law_r3[i]?) ++ (([19, 20, 21, 22] : List Nat).filterMap (fun i => wsL_law_r15[i]?) ++ (([8] : List Nat).filterMap (fun i => wsL_law_r3[i]?) ++ (([11] : List Nat).filterMap (fun i => wsL_law_r2[i]?) ++ (([11, 12] : List Nat).filterMap (fun i => wsL_law_r3[i]?) ++ (([12] : List Nat).filterMap (fun i => wsL_law_r2[i]?) ++ (([14] : List Nat).filterMap (fun i => wsL_law_r3[i]?) ++ (([0, 1, 2, 3, 4, 5, 6, 7, 8, 9, 10, 11, 12, 13, 14, 15, 16, 17, 18, 19, 20, 21, 22, 23, 24, 25, 26, 27, 28, 29, 30, 31, 32, 33, 34, 35, 36] : List Nat).filterMap (fun i => wsX80[i]?))))))))))))))))))))) from rfl]; exact List.forall_mem_append.mpr ⟨run_in wsL_law_r15_m, List.forall_mem_append.mpr ⟨run_in wsL_law_r11_m, List.forall_mem_append.mpr ⟨run_in wsL_law_r3_m, List.forall_mem_append.mpr ⟨run_in wsL_law_r2_m, List.forall_mem_append.mpr ⟨run_in wsL_law_r6_m, List.forall_mem_append.mpr ⟨run_in wsL_law_r1_m, List.forall_mem_append.mpr ⟨run_in wsL_law_r6_m, List.forall_mem_append.mpr ⟨run_in wsL_law_r11_m, List.forall_mem_append.mpr ⟨run_in wsL_law_r2_m, List.forall_mem_append.mpr ⟨run_in wsL_law_r15_m, List.forall_mem_append.mpr ⟨run_in wsL_law_r3_m, List.forall_mem_append.mpr ⟨run_in wsL_law_r2_m, List.forall_mem_append.mpr ⟨run_in wsL_law_r11_m, List.forall_mem_append.mpr ⟨run_in wsL_law_r3_m, List.forall_mem_append.mpr ⟨run_in wsL_law_r15_m, List.forall_mem_append.mpr ⟨run_in wsL_law_r3_m, List.forall_mem_append.mpr ⟨run_in wsL_law_r2_m, List.forall_mem_append.mpr ⟨run_in wsL_law_r3_m, List.forall_mem_append.mpr ⟨run_in wsL_law_r2_m, List.forall_mem_append.mpr ⟨run_in wsL_law_r3_m, run_in wsX80_m⟩⟩⟩⟩⟩⟩⟩⟩⟩⟩⟩⟩⟩⟩⟩⟩⟩⟩⟩⟩) (by decide +kernel)
set_option maxRecDepth 20000 in
set_option maxRecDepth 100000 in
theorem gL_law_X8_go : GoodIn wsL_law (wsV RL 51 RX8 yX8_go wsX8_go) := goodIn_app (goodIn_sub (by rw [show ([.methodLink RL 51 yX8_go, .instanceMethod yX8_go, .selects RX8 yX8_go yX8_go, .initialized RX8] : List Cond) = ([11, 12, 13] : List Nat).filterMap (fun i => wsL_law_r15[i]?) ++ (([5] : List Nat).filterMap (fun i => wsL_law_r1[i]?)) from rfl]; exact List.forall_mem_append.mpr ⟨run_in wsL_law_r15_m, run_in wsL_law_r1_m⟩) (by decide +kernel)) ggL_law_X8_go
set_option maxRecDepth 20000 in
set_option maxRecDepth 100000 in
theorem ggL_law_X7_sell : GoodIn wsL_law wsX7_sell := goodIn_sub (by rw [show wsX7_sell = ([2] : List Nat).filterMap (fun i => wsL_law_r16[i]?) ++ (([2] : List Nat).filterMap (fun i => wsL_law_r7[i]?) ++ (([3, 4] : List Nat).filterMap (fun i => wsL_law_r16[i]?) ++ (([3] : List Nat).filterMap (fun i => wsL_law_r7[i]?) ++ (([0] : List Nat).filterMap (fun i => wsL_law_r2[i]?) ++ (([4, 5, 6] : List Nat).filterMap (fun i => wsL_law_r5[i]?) ++ (([2] : List Nat).filterMap (fun i => wsL_law_r1[i]?) ++ (([7] : List Nat).filterMap (fun i => wsL_law_r5[i]?) ++ (([13] : List Nat).filterMap (fun i => wsL_law_r1[i]?) ++ (([5, 6, 7, 8] : List Nat).filterMap (fun i => wsL_law_r16[i]?) ++ (([14, 15] : List Nat).filterMap (fun i => wsL_law_r14[i]?) ++ (([4, 5, 6] : List Nat).filterMap (fun i => wsL_law_r7[i]?) ++ (([8, 9, 10] : List Nat).filterMap (fun i => wsL_law_r5[i]?) ++ (([0, 1, 2, 3] : List Nat).filterMap (fun i => wsX40[i]?) ++ (([0, 1, 2, 3, 4, 5, 6, 7, 8, 9, 10, 11, 12, 13] : List Nat).filterMap (fun i => wsX70[i]?))))))))))))))) from rfl]; exact List.forall_mem_append.mpr ⟨run_in wsL_law_r16_m, List.forall_mem_append.mpr ⟨run_in wsL_law_r7_m, List.forall_mem_append.mpr ⟨run_in wsL_law_r16_m, List.forall_mem_append.mpr ⟨run_in wsL_law_r7_m, List.forall_mem_append.mpr ⟨run_in wsL_law_r2_m, List.forall_mem_append.mpr ⟨run_in wsL_law_r5_m, List.forall_mem_append.mpr ⟨run_in wsL_law_r1_m, List.forall_mem_append.mpr ⟨run_in wsL_law_r5_m, List.forall_mem_append.mpr ⟨run_in wsL_law_r1_m, List.forall_mem_append.mpr ⟨run_in wsL_law_r16_m, List.forall_mem_append.mpr ⟨run_in wsL_law_r14_m, List.forall_mem_append.mpr ⟨run_in wsL_law_r7_m, List.forall_mem_append.mpr ⟨run_in wsL_law_r5_m, List.forall_mem_append.mpr ⟨run_in wsX40_m, run_in wsX70_m⟩⟩⟩⟩⟩⟩⟩⟩⟩⟩⟩⟩⟩⟩) (by decide +kernel)
set_option maxRecDepth 20000 in
set_option maxRecDepth 100000 in
theorem gL_law_X7_sell : GoodIn wsL_law (wsV RL 52 RX7 yX7_sell wsX7_sell) := goodIn_app (goodIn_sub (by rw [show ([.methodLink RL 52 yX7_sell, .instanceMethod yX7_sell, .selects RX7 yX7_sell yX7_sell, .initialized RX7] : List Cond) = ([23] : List Nat).filterMap (fun i => wsL_law_r15[i]?) ++ (([0, 1] : List Nat).filterMap (fun i => wsL_law_r16[i]?) ++ (([2] : List Nat).filterMap (fun i => wsL_law_r1[i]?))) from rfl]; exact List.forall_mem_append.mpr ⟨run_in wsL_law_r15_m, List.forall_mem_append.mpr ⟨run_in wsL_law_r16_m, run_in wsL_law_r1_m⟩⟩) (by decide +kernel)) ggL_law_X7_sell
set_option maxRecDepth 20000 in
set_option maxRecDepth 100000 in
theorem ggL_law_X8_sell : GoodIn wsL_law wsX8_sell := goodIn_sub (by rw [show wsX8_sell = ([12] : List Nat).filterMap (fun i => wsL_law_r16[i]?) ++ (([12, 11] : List Nat).filterMap (fun i => wsL_law_r2[i]?) ++ (([11] : List Nat).filterMap (fun i => wsL_law_r7[i]?) ++ (([10] : List Nat).filterMap (fun i => wsL_law_r2[i]?) ++ (([13, 14, 15] : List Nat).filterMap (fun i => wsL_law_r16[i]?) ++ (([5] : List Nat).filterMap (fun i => wsL_law_r1[i]?) ++ (([16] : List Nat).filterMap (fun i => wsL_law_r16[i]?) ++ (([14, 15, 16, 17] : List Nat).filterMap (fun i => wsL_law_r6[i]?) ++ (([15] : List Nat).filterMap (fun i => wsL_law_r4[i]?) ++ (([11, 12, 13] : List Nat).filterMap (fun i => wsL_law_r6[i]?) ++ (([12, 13, 14, 15, 16, 17, 18, 19, 20, 21, 22] : List Nat).filterMap (fun i => wsL_law_r7[i]?) ++ (([16] : List Nat).filterMap (fun i => wsL_law_r3[i]?) ++ (([0, 1, 2, 3, 4, 5, 6, 7, 8, 9, 10, 11, 12, 13, 14, 15, 16, 17, 18, 19, 20, 21, 22, 23, 24, 25, 26, 27, 28, 29, 30, 31, 32, 33, 34, 35, 36] : List Nat).filterMap (fun i => wsX80[i]?))))))))))))) from rfl]; exact List.forall_mem_append.mpr ⟨run_in wsL_law_r16_m, List.forall_mem_append.mpr ⟨run_in wsL_law_r2_m, List.forall_mem_append.mpr ⟨run_in wsL_law_r7_m, List.forall_mem_append.mpr ⟨run_in wsL_law_r2_m, List.forall_mem_append.mpr ⟨run_in wsL_law_r16_m, List.forall_mem_append.mpr ⟨run_in wsL_law_r1_m, List.forall_mem_append.mpr ⟨run_in wsL_law_r16_m, List.forall_mem_append.mpr ⟨run_in wsL_law_r6_m, List.forall_mem_append.mpr ⟨run_in wsL_law_r4_m, List.forall_mem_append.mpr ⟨run_in wsL_law_r6_m, List.forall_mem_append.mpr ⟨run_in wsL_law_r7_m, List.forall_mem_append.mpr ⟨run_in wsL_law_r3_m, run_in wsX80_m⟩⟩⟩⟩⟩⟩⟩⟩⟩⟩⟩⟩) (by decide +kernel)
set_option maxRecDepth 20000 in
set_option maxRecDepth 100000 in
theorem gL_law_X8_sell : GoodIn wsL_law (wsV RL 55 RX8 yX8_sell wsX8_sell) := goodIn_app (goodIn_sub (by rw [show ([.methodLink RL 55 yX8_sell, .instanceMethod yX8_sell, .selects RX8 yX8_sell yX8_sell, .initialized RX8] : List Cond) = ([9, 10, 11] : List Nat).filterMap (fun i => wsL_law_r16[i]?) ++ (([5] : List Nat).filterMap (fun i => wsL_law_r1[i]?)) from rfl]; exact List.forall_mem_append.mpr ⟨run_in wsL_law_r16_m, run_in wsL_law_r1_m⟩) (by decide +kernel)) ggL_law_X8_sell
set_option maxRecDepth 20000 in
set_option maxRecDepth 100000 in
theorem ggL_law_X7_buy : GoodIn wsL_law wsX7_buy := goodIn_sub (by rw [show wsX7_buy = ([20] : List Nat).filterMap (fun i => wsL_law_r16[i]?) ++ (([2, 3] : List Nat).filterMap (fun i => wsL_law_r7[i]?) ++ (([3, 4, 21] : List Nat).filterMap (fun i => wsL_law_r16[i]?) ++ (([0] : List Nat).filterMap (fun i => wsL_law_r2[i]?) ++ (([4, 5, 6] : List Nat).filterMap (fun i => wsL_law_r5[i]?) ++ (([2] : List Nat).filterMap (fun i => wsL_law_r1[i]?) ++ (([7] : List Nat).filterMap (fun i => wsL_law_r5[i]?) ++ (([13] : List Nat).filterMap (fun i => wsL_law_r1[i]?) ++ (([5, 6, 7, 8] : List Nat).filterMap (fun i => wsL_law_r16[i]?) ++ (([14, 15] : List Nat).filterMap (fun i => wsL_law_r14[i]?) ++ (([4, 5, 6] : List Nat).filterMap (fun i => wsL_law_r7[i]?) ++ (([8, 9, 10] : List Nat).filterMap (fun i => wsL_law_r5[i]?) ++ (([0, 1, 2, 3] : List Nat).filterMap (fun i => wsX40[i]?) ++ (([0, 1, 2, 3, 4, 5, 6, 7, 8, 9, 10, 11, 12, 13] : List Nat).filterMap (fun i => wsX70[i]?)))))))))))))) from rfl]; exact List.forall_mem_append.mpr ⟨run_in wsL_law_r16_m, List.forall_mem_append.mpr ⟨run_in wsL_law_r7_m, List.forall_mem_append.mpr ⟨run_in wsL_law_r16_m, List.forall_mem_append.mpr ⟨run_in wsL_law_r2_m, List.forall_mem_append.mpr ⟨run_in wsL_law_r5_m, List.forall_mem_append.mpr ⟨run_in wsL_law_r1_m, List.forall_mem_append.mpr ⟨run_in wsL_law_r5_m, List.forall_mem_append.mpr ⟨run_in wsL_law_r1_m, List.forall_mem_append.mpr ⟨run_in wsL_law_r16_m, List.forall_mem_append.mpr ⟨run_in wsL_law_r14_m, List.forall_mem_append.mpr ⟨run_in wsL_law_r7_m, List.forall_mem_append.mpr ⟨run_in wsL_law_r5_m, List.forall_mem_append.mpr ⟨run_in wsX40_m, run_in wsX70_m⟩⟩⟩⟩⟩⟩⟩⟩⟩⟩⟩⟩⟩) (by decide +kernel)
set_option maxRecDepth 20000 in
set_option maxRecDepth 100000 in
theorem gL_law_X7_buy : GoodIn wsL_law (wsV RL 56 RX7 yX7_buy wsX7_buy) := goodIn_app (goodIn_sub (by rw [show ([.methodLink RL 56 yX7_buy, .instanceMethod yX7_buy, .selects RX7 yX7_buy yX7_buy, .initialized RX7] : List Cond) = ([17, 18, 19] : List Nat).filterMap (fun i => wsL_law_r16[i]?) ++ (([2] : List Nat).filterMap (fun i => wsL_law_r1[i]?)) from rfl]; exact List.forall_mem_append.mpr ⟨run_in wsL_law_r16_m, run_in wsL_law_r1_m⟩) (by decide +kernel)) ggL_law_X7_buy
set_option maxRecDepth 20000 in
set_option maxRecDepth 100000 in
theorem ggL_law_X8_buy : GoodIn wsL_law wsX8_buy := goodIn_sub (by rw [show wsX8_buy = ([1] : List Nat).filterMap (fun i => wsL_law_r17[i]?) ++ (([11] : List Nat).filterMap (fun i => wsL_law_r7[i]?) ++ (([12, 11] : List Nat).filterMap (fun i => wsL_law_r2[i]?) ++ (([2] : List Nat).filterMap (fun i => wsL_law_r17[i]?) ++ (([10] : List Nat).filterMap (fun i => wsL_law_r2[i]?) ++ (([13, 14, 15] : List Nat).filterMap (fun i => wsL_law_r16[i]?) ++ (([5] : List Nat).filterMap (fun i => wsL_law_r1[i]?) ++ (([16] : List Nat).filterMap (fun i => wsL_law_r16[i]?) ++ (([14, 15, 16, 17] : List Nat).filterMap (fun i => wsL_law_r6[i]?) ++ (([15] : List Nat).filterMap (fun i => wsL_law_r4[i]?) ++ (([11, 12, 13] : List Nat).filterMap (fun i => wsL_law_r6[i]?) ++ (([12, 13, 14, 15, 16, 17, 18, 19, 20, 21, 22] : List Nat).filterMap (fun i => wsL_law_r7[i]?) ++ (([16] : List Nat).filterMap (fun i => wsL_law_r3[i]?) ++ (([0, 1, 2, 3, 4, 5, 6, 7, 8, 9, 10, 11, 12, 13, 14, 15, 16, 17, 18, 19, 20, 21, 22, 23, 24, 25, 26, 27, 28, 29, 30, 31, 32, 33, 34, 35, 36] : List Nat).filterMap (fun i => wsX80[i]?)))))))))))))) from rfl]; exact List.forall_mem_append.mpr ⟨run_in wsL_law_r17_m, List.forall_mem_append.mpr ⟨run_in wsL_law_r7_m, List.forall_mem_append.mpr ⟨run_in wsL_law_r2_m, List.forall_mem_append.mpr ⟨run_in wsL_law_r17_m, List.forall_mem_append.mpr ⟨run_in wsL_law_r2_m, List.forall_mem_append.mpr ⟨run_in wsL_law_r16_m, List.forall_mem_append.mpr ⟨run_in wsL_law_r1_m, List.forall_mem_append.mpr ⟨run_in wsL_law_r16_m, List.forall_mem_append.mpr ⟨run_in wsL_law_r6_m, List.forall_mem_append.mpr ⟨run_in wsL_law_r4_m, List.forall_mem_append.mpr ⟨run_in wsL_law_r6_m, List.forall_mem_append.mpr ⟨run_in wsL_law_r7_m, List.forall_mem_append.mpr ⟨run_in wsL_law_r3_m, run_in wsX80_m⟩⟩⟩⟩⟩⟩⟩⟩⟩⟩⟩⟩⟩) (by decide +kernel)
set_option maxRecDepth 20000 in
set_option maxRecDepth 100000 in
theorem gL_law_X8_buy : GoodIn wsL_law (wsV RL 59 RX8 yX8_buy wsX8_buy) := goodIn_app (goodIn_sub (by rw [show ([.methodLink RL 59 yX8_buy, .instanceMethod yX8_buy, .selects RX8 yX8_buy yX8_buy, .initialized RX8] : List Cond) = ([22, 23] : List Nat).filterMap (fun i => wsL_law_r16[i]?) ++ (([0] : List Nat).filterMap (fun i => wsL_law_r17[i]?) ++ (([5] : List Nat).filterMap (fun i => wsL_law_r1[i]?))) from rfl]; exact List.forall_mem_append.mpr ⟨run_in wsL_law_r16_m, List.forall_mem_append.mpr ⟨run_in wsL_law_r17_m, run_in wsL_law_r1_m⟩⟩) (by decide +kernel)) ggL_law_X8_buy
set_option maxRecDepth 20000 in
set_option maxRecDepth 100000 in
theorem ggL_law_X7_give : GoodIn wsL_law wsX7_give := goodIn_sub (by rw [show wsX7_give = ([6] : List Nat).filterMap (fun i => wsL_law_r17[i]?) ++ (([2] : List Nat).filterMap (fun i => wsL_law_r7[i]?) ++ (([0] : List Nat).filterMap (fun i => wsL_law_r2[i]?) ++ (([4, 5, 6] : List Nat).filterMap (fun i => wsL_law_r5[i]?) ++ (([2] : List Nat).filterMap (fun i => wsL_law_r1[i]?) ++ (([7] : List Nat).filterMap (fun i => wsL_law_r5[i]?) ++ (([13] : List Nat).filterMap (fun i => wsL_law_r1[i]?) ++ (([5, 6, 7, 8] : List Nat).filterMap (fun i => wsL_law_r16[i]?) ++ (([14, 15] : List Nat).filterMap (fun i => wsL_law_r14[i]?) ++ (([4, 5, 6] : List Nat).filterMap (fun i => wsL_law_r7[i]?) ++ (([8, 9, 10] : List Nat).filterMap (fun i => wsL_law_r5[i]?) ++ (([0, 1, 2, 3] : List Nat).filterMap (fun i => wsX40[i]?) ++ (([0, 1, 2, 3, 4, 5, 6, 7, 8, 9, 10, 11, 12, 13] : List Nat).filterMap (fun i => wsX70[i]?))))))))))))) from rfl]; exact List.forall_mem_append.mpr ⟨run_in wsL_law_r17_m, List.forall_mem_append.mpr ⟨run_in wsL_law_r7_m, List.forall_mem_append.mpr ⟨run_in wsL_law_r2_m, List.forall_mem_append.mpr ⟨run_in wsL_law_r5_m, List.forall_mem_append.mpr ⟨run_in wsL_law_r1_m, List.forall_mem_append.mpr ⟨run_in wsL_law_r5_m, List.forall_mem_append.mpr ⟨run_in wsL_law_r1_m, List.forall_mem_append.mpr ⟨run_in wsL_law_r16_m, List.forall_mem_append.mpr ⟨run_in wsL_law_r14_m, List.forall_mem_append.mpr ⟨run_in wsL_law_r7_m, List.forall_mem_append.mpr ⟨run_in wsL_law_r5_m, List.forall_mem_append.mpr ⟨run_in wsX40_m, run_in wsX70_m⟩⟩⟩⟩⟩⟩⟩⟩⟩⟩⟩⟩) (by decide +kernel)
set_option maxRecDepth 20000 in
set_option maxRecDepth 100000 in
theorem gL_law_X7_give : GoodIn wsL_law (wsV RL 60 RX7 yX7_give wsX7_give) := goodIn_app (goodIn_sub (by rw [show ([.methodLink RL 60 yX7_give, .instanceMethod yX7_give, .selects RX7 yX7_give yX7_give, .initialized RX7] : List Cond) = ([3, 4, 5] : List Nat).filterMap (fun i => wsL_law_r17[i]?) ++ (([2] : List Nat).filterMap (fun i => wsL_law_r1[i]?)) from rfl]; exact List.forall_mem_append.mpr ⟨run_in wsL_law_r17_m, run_in wsL_law_r1_m⟩) (by decide +kernel)) ggL_law_X7_give
set_option maxRecDepth 20000 in
set_option maxRecDepth 100000 in
theorem ggL_law_X8_give : GoodIn wsL_law wsX8_give := goodIn_sub (by rw [show wsX8_give = ([10] : List Nat).filterMap (fun i => wsL_law_r17[i]?) ++ (([10] : List Nat).filterMap (fun i => wsL_law_r2[i]?) ++ (([13, 14, 15] : List Nat).filterMap (fun i => wsL_law_r16[i]?) ++ (([5] : List Nat).filterMap (fun i => wsL_law_r1[i]?) ++ (([16] : List Nat).filterMap (fun i => wsL_law_r16[i]?) ++ (([14, 15, 16, 17] : List Nat).filterMap (fun i => wsL_law_r6[i]?) ++ (([15] : List Nat).filterMap (fun i => wsL_law_r4[i]?) ++ (([11, 12, 13] : List Nat).filterMap (fun i => wsL_law_r6[i]?) ++ (([12, 13, 14, 15, 16, 17, 18, 19, 20, 21, 22] : List Nat).filterMap (fun i => wsL_law_r7[i]?) ++ (([16] : List Nat).filterMap (fun i => wsL_law_r3[i]?) ++ (([0, 1, 2, 3, 4, 5, 6, 7, 8, 9, 10, 11, 12, 13, 14, 15, 16, 17, 18, 19, 20, 21, 22, 23, 24, 25, 26, 27, 28, 29, 30, 31, 32, 33, 34, 35, 36] : List Nat).filterMap (fun i => wsX80[i]?))))))))))) from rfl]; exact List.forall_mem_append.mpr ⟨run_in wsL_law_r17_m, List.forall_mem_append.mpr ⟨run_in wsL_law_r2_m, List.forall_mem_append.mpr ⟨run_in wsL_law_r16_m, List.forall_mem_append.mpr ⟨run_in wsL_law_r1_m, List.forall_mem_append.mpr ⟨run_in wsL_law_r16_m, List.forall_mem_append.mpr ⟨run_in wsL_law_r6_m, List.forall_mem_append.mpr ⟨run_in wsL_law_r4_m, List.forall_mem_append.mpr ⟨run_in wsL_law_r6_m, List.forall_mem_append.mpr ⟨run_in wsL_law_r7_m, List.forall_mem_append.mpr ⟨run_in wsL_law_r3_m, run_in wsX80_m⟩⟩⟩⟩⟩⟩⟩⟩⟩⟩) (by decide +kernel)
set_option maxRecDepth 20000 in
set_option maxRecDepth 100000 in
theorem gL_law_X8_give : GoodIn wsL_law (wsV RL 63 RX8 yX8_give wsX8_give) := goodIn_app (goodIn_sub (by rw [show ([.methodLink RL 63 yX8_give, .instanceMethod yX8_give, .selects RX8 yX8_give yX8_give, .initialized RX8] : List Cond) = ([7, 8, 9] : List Nat).filterMap (fun i => wsL_law_r17[i]?) ++ (([5] : List Nat).filterMap (fun i => wsL_law_r1[i]?)) from rfl]; exact List.forall_mem_append.mpr ⟨run_in wsL_law_r17_m, run_in wsL_law_r1_m⟩) (by decide +kernel)) ggL_law_X8_give
set_option maxRecDepth 20000 in
set_option maxRecDepth 100000 in
theorem ggL_law_X7_owes : GoodIn wsL_law wsX7_owes := goodIn_sub (by rw [show wsX7_owes = ([14] : List Nat).filterMap (fun i => wsL_law_r17[i]?) ++ (([3] : List Nat).filterMap (fun i => wsL_law_r16[i]?) ++ (([4, 5, 6] : List Nat).filterMap (fun i => wsL_law_r5[i]?) ++ (([2] : List Nat).filterMap (fun i => wsL_law_r1[i]?) ++ (([7] : List Nat).filterMap (fun i => wsL_law_r5[i]?) ++ (([13] : List Nat).filterMap (fun i => wsL_law_r1[i]?) ++ (([8] : List Nat).filterMap (fun i => wsL_law_r16[i]?) ++ (([14, 15] : List Nat).filterMap (fun i => wsL_law_r14[i]?) ++ (([0, 1, 2, 3] : List Nat).filterMap (fun i => wsX40[i]?) ++ (([0, 1, 2, 3, 4, 5, 6, 7, 8, 9, 10, 11, 12, 13] : List Nat).filterMap (fun i => wsX70[i]?)))))))))) from rfl]; exact List.forall_mem_append.mpr ⟨run_in wsL_law_r17_m, List.forall_mem_append.mpr ⟨run_in wsL_law_r16_m, List.forall_mem_append.mpr ⟨run_in wsL_law_r5_m, List.forall_mem_append.mpr ⟨run_in wsL_law_r1_m, List.forall_mem_append.mpr ⟨run_in wsL_law_r5_m, List.forall_mem_append.mpr ⟨run_in wsL_law_r1_m, List.forall_mem_append.mpr ⟨run_in wsL_law_r16_m, List.forall_mem_append.mpr ⟨run_in wsL_law_r14_m, List.forall_mem_append.mpr ⟨run_in wsX40_m, run_in wsX70_m⟩⟩⟩⟩⟩⟩⟩⟩⟩) (by decide +kernel)
set_option maxRecDepth 20000 in
set_option maxRecDepth 100000 in
theorem gL_law_X7_owes : GoodIn wsL_law (wsV RL 64 RX7 yX7_owes wsX7_owes) := goodIn_app (goodIn_sub (by rw [show ([.methodLink RL 64 yX7_owes, .instanceMethod yX7_owes, .selects RX7 yX7_owes yX7_owes, .initialized RX7] : List Cond) = ([11, 12, 13] : List Nat).filterMap (fun i => wsL_law_r17[i]?) ++ (([2] : List Nat).filterMap (fun i => wsL_law_r1[i]?)) from rfl]; exact List.forall_mem_append.mpr ⟨run_in wsL_law_r17_m, run_in wsL_law_r1_m⟩) (by decide +kernel)) ggL_law_X7_owes
set_option maxRecDepth 20000 in
set_option maxRecDepth 100000 in
theorem ggL_law_X8_owes : GoodIn wsL_law wsX8_owes := goodIn_sub (by rw [show wsX8_owes = ([18] : List Nat).filterMap (fun i => wsL_law_r17[i]?) ++ (([12] : List Nat).filterMap (fun i => wsL_law_r2[i]?) ++ (([14, 15, 16] : List Nat).filterMap (fun i => wsL_law_r6[i]?) ++ (([5] : List Nat).filterMap (fun i => wsL_law_r1[i]?) ++ (([17] : List Nat).filterMap (fun i => wsL_law_r6[i]?) ++ (([15] : List Nat).filterMap (fun i => wsL_law_r4[i]?) ++ (([11, 12, 13] : List Nat).filterMap (fun i => wsL_law_r6[i]?) ++ (([0, 1, 2, 3, 4, 5, 6, 7, 8, 9, 10, 11, 12, 13, 14, 15, 16, 17, 18, 19, 20, 21, 22, 23, 24, 25, 26, 27, 28, 29, 30, 31, 32, 33, 34, 35, 36] : List Nat).filterMap (fun i => wsX80[i]?)))))))) from rfl]; exact List.forall_mem_append.mpr ⟨run_in wsL_law_r17_m, List.forall_mem_append.mpr ⟨run_in wsL_law_r2_m, List.forall_mem_append.mpr ⟨run_in wsL_law_r6_m, List.forall_mem_append.mpr ⟨run_in wsL_law_r1_m, List.forall_mem_append.mpr ⟨run_in wsL_law_r6_m, List.forall_mem_append.mpr ⟨run_in wsL_law_r4_m, List.forall_mem_append.mpr ⟨run_in wsL_law_r6_m, run_in wsX80_m⟩⟩⟩⟩⟩⟩⟩) (by decide +kernel)
set_option maxRecDepth 20000 in
set_option maxRecDepth 100000 in
theorem gL_law_X8_owes : GoodIn wsL_law (wsV RL 67 RX8 yX8_owes wsX8_owes) := goodIn_app (goodIn_sub (by rw [show ([.methodLink RL 67 yX8_owes, .instanceMethod yX8_owes, .selects RX8 yX8_owes yX8_owes, .initialized RX8] : List Cond) = ([15, 16, 17] : List Nat).filterMap (fun i => wsL_law_r17[i]?) ++ (([5] : List Nat).filterMap (fun i => wsL_law_r1[i]?)) from rfl]; exact List.forall_mem_append.mpr ⟨run_in wsL_law_r17_m, run_in wsL_law_r1_m⟩) (by decide +kernel)) ggL_law_X8_owes
set_option maxRecDepth 20000 in
set_option maxRecDepth 100000 in
theorem ggL_law_X7_price : GoodIn wsL_law wsX7_price := goodIn_sub (by rw [show wsX7_price = ([22] : List Nat).filterMap (fun i => wsL_law_r17[i]?) ++ (([4] : List Nat).filterMap (fun i => wsL_law_r16[i]?) ++ (([4, 5, 6] : List Nat).filterMap (fun i => wsL_law_r5[i]?) ++ (([2] : List Nat).filterMap (fun i => wsL_law_r1[i]?) ++ (([7] : List Nat).filterMap (fun i => wsL_law_r5[i]?) ++ (([13] : List Nat).filterMap (fun i => wsL_law_r1[i]?) ++ (([4, 5, 6] : List Nat).filterMap (fun i => wsL_law_r7[i]?) ++ (([0, 1, 2, 3] : List Nat).filterMap (fun i => wsX40[i]?) ++ (([0, 1, 2, 3, 4, 5, 6, 7, 8, 9, 10, 11, 12, 13] : List Nat).filterMap (fun i => wsX70[i]?))))))))) from rfl]; exact List.forall_mem_append.mpr ⟨run_in wsL_law_r17_m, List.forall_mem_append.mpr ⟨run_in wsL_law_r16_m, List.forall_mem_append.mpr ⟨run_in wsL_law_r5_m, List.forall_mem_append.mpr ⟨run_in wsL_law_r1_m, List.forall_mem_append.mpr ⟨run_in wsL_law_r5_m, List.forall_mem_append.mpr ⟨run_in wsL_law_r1_m, List.forall_mem_append.mpr ⟨run_in wsL_law_r7_m, List.forall_mem_append.mpr ⟨run_in wsX40_m, run_in wsX70_m⟩⟩⟩⟩⟩⟩⟩⟩) (by decide +kernel)
set_option maxRecDepth 20000 in
set_option maxRecDepth 100000 in
theorem gL_law_X7_price : GoodIn wsL_law (wsV RL 68 RX7 yX7_price wsX7_price) := goodIn_app (goodIn_sub (by rw [show ([.methodLink RL 68 yX7_price, .instanceMethod yX7_price, .selects RX7 yX7_price yX7_price, .initialized RX7] : List Cond) = ([19, 20, 21] : List Nat).filterMap (fun i => wsL_law_r17[i]?) ++ (([2] : List Nat).filterMap (fun i => wsL_law_r1[i]?)) from rfl]; exact List.forall_mem_append.mpr ⟨run_in wsL_law_r17_m, run_in wsL_law_r1_m⟩) (by decide +kernel)) ggL_law_X7_price
set_option maxRecDepth 20000 in
set_option maxRecDepth 100000 in
theorem ggL_law_X8_price : GoodIn wsL_law wsX8_price := goodIn_sub (by rw [show wsX8_price = ([2] : List Nat).filterMap (fun i => wsL_law_r18[i]?) ++ (([11] : List Nat).filterMap (fun i => wsL_law_r2[i]?) ++ (([14, 15, 16] : List Nat).filterMap (fun i => wsL_law_r6[i]?) ++ (([5] : List Nat).filterMap (fun i => wsL_law_r1[i]?) ++ (([17] : List Nat).filterMap (fun i => wsL_law_r6[i]?) ++ (([15] : List Nat).filterMap (fun i => wsL_law_r4[i]?) ++ (([11, 12, 13] : List Nat).filterMap (fun i => wsL_law_r6[i]?) ++ (([12, 13, 14] : List Nat).filterMap (fun i => wsL_law_r7[i]?) ++ (([0, 1, 2, 3, 4, 5, 6, 7, 8, 9, 10, 11, 12, 13, 14, 15, 16, 17, 18, 19, 20, 21, 22, 23, 24, 25, 26, 27, 28, 29, 30, 31, 32, 33, 34, 35, 36] : List Nat).filterMap (fun i => wsX80[i]?))))))))) from rfl]; exact List.forall_mem_append.mpr ⟨run_in wsL_law_r18_m, List.forall_mem_append.mpr ⟨run_in wsL_law_r2_m, List.forall_mem_append.mpr ⟨run_in wsL_law_r6_m, List.forall_mem_append.mpr ⟨run_in wsL_law_r1_m, List.forall_mem_append.mpr ⟨run_in wsL_law_r6_m, List.forall_mem_append.mpr ⟨run_in wsL_law_r4_m, List.forall_mem_append.mpr ⟨run_in wsL_law_r6_m, List.forall_mem_append.mpr ⟨run_in wsL_law_r7_m, run_in wsX80_m⟩⟩⟩⟩⟩⟩⟩⟩) (by decide +kernel)
set_option maxRecDepth 20000 in
set_option maxRecDepth 100000 in
theorem gL_law_X8_price : GoodIn wsL_law (wsV RL 71 RX8 yX8_price wsX8_price) := goodIn_app (goodIn_sub (by rw [show ([.methodLink RL 71 yX8_price, .instanceMethod yX8_price, .selects RX8 yX8_price yX8_price, .initialized RX8] : List Cond) = ([23] : List Nat).filterMap (fun i => wsL_law_r17[i]?) ++ (([0, 1] : List Nat).filterMap (fun i => wsL_law_r18[i]?) ++ (([5] : List Nat).filterMap (fun i => wsL_law_r1[i]?))) from rfl]; exact List.forall_mem_append.mpr ⟨run_in wsL_law_r17_m, List.forall_mem_append.mpr ⟨run_in wsL_law_r18_m, run_in wsL_law_r1_m⟩⟩) (by decide +kernel)) ggL_law_X8_price
set_option maxRecDepth 20000 in
set_option maxRecDepth 100000 in
theorem ggL_law_X7_order : GoodIn wsL_law wsX7_order := goodIn_sub (by rw [show wsX7_order = ([6, 7, 8] : List Nat).filterMap (fun i => wsL_law_r18[i]?) ++ (([18] : List Nat).filterMap (fun i => wsL_law_r14[i]?) ++ (([9, 10, 11] : List Nat).filterMap (fun i => wsL_law_r18[i]?) ++ (([2] : List Nat).filterMap (fun i => wsL_law_r1[i]?) ++ (([12] : List Nat).filterMap (fun i => wsL_law_r18[i]?) ++ (([15] : List Nat).filterMap (fun i => wsL_law_r10[i]?) ++ (([0, 1, 2, 3, 4, 5, 6, 7] : List Nat).filterMap (fun i => wsL_law_r5[i]?) ++ (([13] : List Nat).filterMap (fun i => wsL_law_r1[i]?) ++ (([4, 5, 6] : List Nat).filterMap (fun i => wsL_law_r7[i]?) ++ (([8, 9, 10] : List Nat).filterMap (fun i => wsL_law_r5[i]?) ++ (([13, 14, 15] : List Nat).filterMap (fun i => wsL_law_r18[i]?) ++ (([20, 22] : List Nat).filterMap (fun i => wsL_law_r14[i]?) ++ (([16, 17, 18, 19, 20] : List Nat).filterMap (fun i => wsL_law_r18[i]?) ++ (([10, 11] : List Nat).filterMap (fun i => wsL_law_r1[i]?) ++ (([21, 22, 23] : List Nat).filterMap (fun i => wsL_law_r18[i]?) ++ (([0, 1, 2, 3, 4] : List Nat).filterMap (fun i => wsL_law_r19[i]?) ++ (([19] : List Nat).filterMap (fun i => wsL_law_r1[i]?) ++ (([0, 1, 2, 3, 4, 5] : List Nat).filterMap (fun i => wsX30[i]?) ++ (([0, 1, 2, 3, 4, 5, 6, 7, 8, 9, 10, 11, 12, 13] : List Nat).filterMap (fun i => wsX70[i]?) ++ (([0, 1, 2, 3, 4, 5] : List Nat).filterMap (fun i => wsX10[i]?) ++ (([0, 1, 2, 3, 4, 5] : List Nat).filterMap (fun i => wsX50[i]?))))))))))))))))))))) from rfl]; exact List.forall_mem_append.mpr ⟨run_in wsL_law_r18_m, List.forall_mem_append.mpr ⟨run_in wsL_law_r14_m, List.forall_mem_append.mpr ⟨run_in wsL_law_r18_m, List.forall_mem_append.mpr ⟨run_in wsL_law_r1_m, List.forall_mem_append.mpr ⟨run_in wsL_law_r18_m, List.forall_mem_append.mpr ⟨run_in wsL_law_r10_m, List.forall_mem_append.mpr ⟨run_in wsL_law_r5_m, List.forall_mem_append.mpr ⟨run_in wsL_law_r1_m, List.forall_mem_append.mpr ⟨run_in wsL_law_r7_m, List.forall_mem_append.mpr ⟨run_in wsL_law_r5_m, List.forall_mem_append.mpr ⟨run_in wsL_law_r18_m, List.forall_mem_append.mpr ⟨run_in wsL_law_r14_m, List.forall_mem_append.mpr ⟨run_in wsL_law_r18_m, List.forall_mem_append.mpr ⟨run_in wsL_law_r1_m, List.forall_mem_append.mpr ⟨run_in wsL_law_r18_m, List.forall_mem_append.mpr ⟨run_in wsL_law_r19_m, List.forall_mem_append.mpr ⟨run_in wsL_law_r1_m, List.forall_mem_append.mpr ⟨run_in wsX30_m, List.forall_mem_append.mpr ⟨run_in wsX70_m, List.forall_mem_append.mpr ⟨run_in wsX10_m, run_in wsX50_m⟩⟩⟩⟩⟩⟩⟩⟩⟩⟩⟩⟩⟩⟩⟩⟩⟩⟩⟩⟩) (by decide +kernel)
set_option maxRecDepth 20000 in
set_option maxRecDepth 100000 in
theorem gL_law_X7_order : GoodIn wsL_law (wsV RL 72 RX7 yX7_order wsX7_order) := goodIn_app (goodIn_sub (by rw [show ([.methodLink RL 72 yX7_order, .instanceMethod yX7_order, .selects RX7 yX7_order yX7_order, .initialized RX7] : List Cond) = ([3, 4, 5] : List Nat).filterMap (fun i => wsL_law_r18[i]?) ++ (([2] : List Nat).filterMap (fun i => wsL_law_r1[i]?)) from rfl]; exact List.forall_mem_append.mpr ⟨run_in wsL_law_r18_m, run_in wsL_law_r1_m⟩) (by decide +kernel)) ggL_law_X7_order
set_option maxRecDepth 20000 in
set_option maxRecDepth 100000 in
theorem ggL_law_X8_order : GoodIn wsL_law wsX8_order := goodIn_sub (by rw [show wsX8_order = ([8, 9, 10, 11] : List Nat).filterMap (fun i => wsL_law_r19[i]?) ++ (([5] : List Nat).filterMap (fun i => wsL_law_r1[i]?) ++ (([12] : List Nat).filterMap (fun i => wsL_law_r19[i]?) ++ (([11] : List Nat).filterMap (fun i => wsL_law_r11[i]?) ++ (([14, 15, 16, 17] : List Nat).filterMap (fun i => wsL_law_r6[i]?) ++ (([15] : List Nat).filterMap (fun i => wsL_law_r4[i]?) ++ (([11, 12, 13] : List Nat).filterMap (fun i => wsL_law_r6[i]?) ++ (([12, 13, 14] : List Nat).filterMap (fun i => wsL_law_r7[i]?) ++ (([13, 14, 15, 16] : List Nat).filterMap (fun i => wsL_law_r19[i]?) ++ (([8, 10, 9, 11, 12] : List Nat).filterMap (fun i => wsL_law_r3[i]?) ++ (([0, 1, 2, 3, 4, 5, 6, 7, 8, 9, 10, 11, 12, 13, 14, 15, 16, 17, 18, 19, 20, 21, 22, 23, 24, 25, 26, 27, 28, 29, 30, 31, 32, 33, 34, 35, 36] : List Nat).filterMap (fun i => wsX80[i]?))))))))))) from rfl]; exact List.forall_mem_append.mpr ⟨run_in wsL_law_r19_m, List.forall_mem_append.mpr ⟨run_in wsL_law_r1_m, List.forall_mem_append.mpr ⟨run_in wsL_law_r19_m, List.forall_mem_append.mpr ⟨run_in wsL_law_r11_m, List.forall_mem_append.mpr ⟨run_in wsL_law_r6_m, List.forall_mem_append.mpr ⟨run_in wsL_law_r4_m, List.forall_mem_append.mpr ⟨run_in wsL_law_r6_m, List.forall_mem_append.mpr ⟨run_in wsL_law_r7_m, List.forall_mem_append.mpr ⟨run_in wsL_law_r19_m, List.forall_mem_append.mpr ⟨run_in wsL_law_r3_m, run_in wsX80_m⟩⟩⟩⟩⟩⟩⟩⟩⟩⟩) (by decide +kernel)
set_option maxRecDepth 20000 in
set_option maxRecDepth 100000 in
theorem gL_law_X8_order : GoodIn wsL_law (wsV RL 75 RX8 yX8_order wsX8_order) := goodIn_app (goodIn_sub (by rw [show ([.methodLink RL 75 yX8_order, .instanceMethod yX8_order, .selects RX8 yX8_order yX8_order, .initialized RX8] : List Cond) = ([5, 6, 7] : List Nat).filterMap (fun i => wsL_law_r19[i]?) ++ (([5] : List Nat).filterMap (fun i => wsL_law_r1[i]?)) from rfl]; exact List.forall_mem_append.mpr ⟨run_in wsL_law_r19_m, run_in wsL_law_r1_m⟩) (by decide +kernel)) ggL_law_X8_order
set_option maxRecDepth 20000 in
set_option maxRecDepth 100000 in
theorem ggL_law_X7_debt : GoodIn wsL_law wsX7_debt := goodIn_sub (by rw [show wsX7_debt = ([20] : List Nat).filterMap (fun i => wsL_law_r19[i]?) ++ (([3] : List Nat).filterMap (fun i => wsL_law_r16[i]?) ++ (([21, 22] : List Nat).filterMap (fun i => wsL_law_r19[i]?) ++ (([9] : List Nat).filterMap (fun i => wsL_law_r14[i]?) ++ (([4, 5, 6] : List Nat).filterMap (fun i => wsL_law_r5[i]?) ++ (([2] : List Nat).filterMap (fun i => wsL_law_r1[i]?) ++ (([7] : List Nat).filterMap (fun i => wsL_law_r5[i]?) ++ (([13] : List Nat).filterMap (fun i => wsL_law_r1[i]?) ++ (([9, 10, 11, 12] : List Nat).filterMap (fun i => wsL_law_r18[i]?) ++ (([15] : List Nat).filterMap (fun i => wsL_law_r10[i]?) ++ (([0, 1, 2, 3] : List Nat).filterMap (fun i => wsL_law_r5[i]?) ++ (([8] : List Nat).filterMap (fun i => wsL_law_r16[i]?) ++ (([14, 15] : List Nat).filterMap (fun i => wsL_law_r14[i]?) ++ (([23] : List Nat).filterMap (fun i => wsL_law_r19[i]?) ++ (([0, 1] : List Nat).filterMap (fun i => wsL_law_r20[i]?) ++ (([11, 13] : List Nat).filterMap (fun i => wsL_law_r14[i]?) ++ (([2] : List Nat).filterMap (fun i => wsL_law_r20[i]?) ++ (([17, 18, 19, 20] : List Nat).filterMap (fun i => wsL_law_r18[i]?) ++ (([10, 11] : List Nat).filterMap (fun i => wsL_law_r1[i]?) ++ (([21, 22, 23] : List Nat).filterMap (fun i => wsL_law_r18[i]?) ++ (([0, 1, 2, 3, 4] : List Nat).filterMap (fun i => wsL_law_r19[i]?) ++ (([19] : List Nat).filterMap (fun i => wsL_law_r1[i]?) ++ (([0, 1, 2, 3] : List Nat).filterMap (fun i => wsX40[i]?) ++ (([0, 1, 2, 3, 4, 5] : List Nat).filterMap (fun i => wsX10[i]?) ++ (([0, 1, 2, 3, 4, 5, 6, 7, 8, 9, 10, 11, 12, 13] : List Nat).filterMap (fun i => wsX70[i]?) ++ (([0, 1, 2, 3, 4, 5] : List Nat).filterMap (fun i => wsX30[i]?) ++ (([0, 1, 2, 3, 4, 5] : List Nat).filterMap (fun i => wsX50[i]?))))))))))))))))))))))))))) from rfl]; exact List.forall_mem_append.mpr ⟨run_in wsL_law_r19_m, List.forall_mem_append.mpr ⟨run_in wsL_law_r16_m, List.forall_mem_append.mpr ⟨run_in wsL_law_r19_m, List.forall_mem_append.mpr ⟨run_in wsL_law_r14_m, List.forall_mem_append.mpr ⟨run_in wsL_law_r5_m, List.forall_mem_append.mpr ⟨run_in wsL_law_r1_m, List.forall_mem_append.mpr ⟨run_in wsL_law_r5_m, List.forall_mem_append.mpr ⟨run_in wsL_law_r1_m, List.forall_mem_append.mpr ⟨run_in wsL_law_r18_m, List.forall_mem_append.mpr ⟨run_in wsL_law_r10_m, List.forall_mem_append.mpr ⟨run_in wsL_law_r5_m, List.forall_mem_append.mpr ⟨run_in wsL_law_r16_m, List.forall_mem_append.mpr ⟨run_in wsL_law_r14_m, List.forall_mem_append.mpr ⟨run_in wsL_law_r19_m, List.forall_mem_append.mpr ⟨run_in wsL_law_r20_m, List.forall_mem_append.mpr ⟨run_in wsL_law_r14_m, List.forall_mem_append.mpr ⟨run_in wsL_law_r20_m, List.forall_mem_append.mpr ⟨run_in wsL_law_r18_m, List.forall_mem_append.mpr ⟨run_in wsL_law_r1_m, List.forall_mem_append.mpr ⟨run_in wsL_law_r18_m, List.forall_mem_append.mpr ⟨run_in wsL_law_r19_m, List.forall_mem_append.mpr ⟨run_in wsL_law_r1_m, List.forall_mem_append.mpr ⟨run_in wsX40_m, List.forall_mem_append.mpr ⟨run_in wsX10_m, List.forall_mem_append.mpr ⟨run_in wsX70_m, List.forall_mem_append.mpr ⟨run_in wsX30_m, run_in wsX50_m⟩⟩⟩⟩⟩⟩⟩⟩⟩⟩⟩⟩⟩⟩⟩⟩⟩⟩⟩⟩⟩⟩⟩⟩⟩⟩) (by decide +kernel)
set_option maxRecDepth 20000 in
set_option maxRecDepth 100000 in
theorem gL_law_X7_debt : GoodIn wsL_law (wsV RL 76 RX7 yX7_debt wsX7_debt) := goodIn_app (goodIn_sub (by rw [show ([.methodLink RL 76 yX7_debt, .instanceMethod yX7_debt, .selects RX7 yX7_debt yX7_debt, .initialized RX7] : List Cond) = ([17, 18, 19] : List Nat).filterMap (fun i => wsL_law_r19[i]?) ++ (([2] : List Nat).filterMap (fun i => wsL_law_r1[i]?)) from rfl]; exact List.forall_mem_append.mpr ⟨run_in wsL_law_r19_m, run_in wsL_law_r1_m⟩) (by decide +kernel)) ggL_law_X7_debt
set_option maxRecDepth 20000 in
set_option maxRecDepth 100000 in
theorem ggL_law_X8_debt : GoodIn wsL_law wsX8_debt := goodIn_sub (by rw [show wsX8_debt = ([6] : List Nat).filterMap (fun i => wsL_law_r20[i]?) ++ (([12] : List Nat).filterMap (fun i => wsL_law_r2[i]?) ++ (([9, 10, 11] : List Nat).filterMap (fun i => wsL_law_r19[i]?) ++ (([5] : List Nat).filterMap (fun i => wsL_law_r1[i]?) ++ (([12] : List Nat).filterMap (fun i => wsL_law_r19[i]?) ++ (([11] : List Nat).filterMap (fun i => wsL_law_r11[i]?) ++ (([14, 15, 16, 17] : List Nat).filterMap (fun i => wsL_law_r6[i]?) ++ (([15] : List Nat).filterMap (fun i => wsL_law_r4[i]?) ++ (([11, 12, 13] : List Nat).filterMap (fun i => wsL_law_r6[i]?) ++ (([7] : List Nat).filterMap (fun i => wsL_law_r20[i]?) ++ (([16, 17, 18] : List Nat).filterMap (fun i => wsL_law_r17[i]?) ++ (([13, 14, 15, 16] : List Nat).filterMap (fun i => wsL_law_r19[i]?) ++ (([8, 10, 9, 11, 12] : List Nat).filterMap (fun i => wsL_law_r3[i]?) ++ (([0, 1, 2, 3, 4, 5, 6, 7, 8, 9, 10, 11, 12, 13, 14, 15, 16, 17, 18, 19, 20, 21, 22, 23, 24, 25, 26, 27, 28, 29, 30, 31, 32, 33, 34, 35, 36] : List Nat).filterMap (fun i => wsX80[i]?)))))))))))))) from rfl]; exact List.forall_mem_append.mpr ⟨run_in wsL_law_r20_m, List.forall_mem_append.mpr ⟨run_in wsL_law_r2_m, List.forall_mem_append.mpr ⟨run_in wsL_law_r19_m, List.forall_mem_append.mpr ⟨run_in wsL_law_r1_m, List.forall_mem_append.mpr ⟨run_in wsL_law_r19_m, List.forall_mem_append.mpr ⟨run_in wsL_law_r11_m, List.forall_mem_append.mpr ⟨run_in wsL_law_r6_m, List.forall_mem_append.mpr ⟨run_in wsL_law_r4_m, List.forall_mem_append.mpr ⟨run_in wsL_law_r6_m, List.forall_mem_append.mpr ⟨run_in wsL_law_r20_m, List.forall_mem_append.mpr ⟨run_in wsL_law_r17_m, List.forall_mem_append.mpr ⟨run_in wsL_law_r19_m, List.forall_mem_append.mpr ⟨run_in wsL_law_r3_m, run_in wsX80_m⟩⟩⟩⟩⟩⟩⟩⟩⟩⟩⟩⟩⟩) (by decide +kernel)
set_option maxRecDepth 20000 in
set_option maxRecDepth 100000 in
theorem gL_law_X8_debt : GoodIn wsL_law (wsV RL 79 RX8 yX8_debt wsX8_debt) := goodIn_app (goodIn_sub (by rw [show ([.methodLink RL 79 yX8_debt, .instanceMethod yX8_debt, .selects RX8 yX8_debt yX8_debt, .initialized RX8] : List Cond) = ([3, 4, 5] : List Nat).filterMap (fun i => wsL_law_r20[i]?) ++ (([5] : List Nat).filterMap (fun i => wsL_law_r1[i]?)) from rfl]; exact List.forall_mem_append.mpr ⟨run_in wsL_law_r20_m, run_in wsL_law_r1_m⟩) (by decide +kernel)) ggL_law_X8_debt
set_option maxRecDepth 20000 in
set_option maxRecDepth 100000 in
theorem ggL_law_X7_report : GoodIn wsL_law wsX7_report := goodIn_sub (by rw [show wsX7_report = ([11, 12, 13] : List Nat).filterMap (fun i => wsL_law_r20[i]?) ++ (([1] : List Nat).filterMap (fun i => wsL_law_r15[i]?) ++ (([11] : List Nat).filterMap (fun i => wsL_law_r8[i]?) ++ (([2] : List Nat).filterMap (fun i => wsL_law_r7[i]?) ++ (([16, 17, 18, 19, 20, 21] : List Nat).filterMap (fun i => wsL_law_r8[i]?) ++ (([4, 5, 6] : List Nat).filterMap (fun i => wsL_law_r5[i]?) ++ (([2] : List Nat).filterMap (fun i => wsL_law_r1[i]?) ++ (([7] : List Nat).filterMap (fun i => wsL_law_r5[i]?) ++ (([13] : List Nat).filterMap (fun i => wsL_law_r1[i]?) ++ (([9, 10, 11, 12] : List Nat).filterMap (fun i => wsL_law_r18[i]?) ++ (([15] : List Nat).filterMap (fun i => wsL_law_r10[i]?) ++ (([0, 1, 2, 3] : List Nat).filterMap (fun i => wsL_law_r5[i]?) ++ (([14, 15, 16] : List Nat).filterMap (fun i => wsL_law_r20[i]?) ++ (([5] : List Nat).filterMap (fun i => wsL_law_r15[i]?) ++ (([17, 18] : List Nat).filterMap (fun i => wsL_law_r20[i]?) ++ (([17, 18, 19, 20] : List Nat).filterMap (fun i => wsL_law_r18[i]?) ++ (([10, 11] : List Nat).filterMap (fun i => wsL_law_r1[i]?) ++ (([21, 22, 23] : List Nat).filterMap (fun i => wsL_law_r18[i]?) ++ (([0, 1, 2, 3, 4] : List Nat).filterMap (fun i => wsL_law_r19[i]?) ++ (([19] : List Nat).filterMap (fun i => wsL_law_r1[i]?) ++ (([0, 1, 2, 3, 4, 5] : List Nat).filterMap (fun i => wsX50[i]?) ++ (([0, 1, 2, 3, 4, 5, 6, 7, 8, 9, 10, 11, 12, 13] : List Nat).filterMap (fun i => wsX70[i]?) ++ (([0, 1, 2, 3] : List Nat).filterMap (fun i => wsX40[i]?) ++ (([0, 1, 2, 3, 4, 5] : List Nat).filterMap (fun i => wsX10[i]?) ++ (([0, 1, 2, 3, 4, 5] : List Nat).filterMap (fun i => wsX30[i]?))))))))))))))))))))))))) from rfl]; exact List.forall_mem_append.mpr ⟨run_in wsL_law_r20_m, List.forall_mem_append.mpr ⟨run_in wsL_law_r15_m, List.forall_mem_append.mpr ⟨run_in wsL_law_r8_m, List.forall_mem_append.mpr ⟨run_in wsL_law_r7_m, List.forall_mem_append.mpr ⟨run_in wsL_law_r8_m, List.forall_mem_append.mpr ⟨run_in wsL_law_r5_m, List.forall_mem_append.mpr ⟨run_in wsL_law_r1_m, List.forall_mem_append.mpr ⟨run_in wsL_law_r5_m, List.forall_mem_append.mpr ⟨run_in wsL_law_r1_m, List.forall_mem_append.mpr ⟨run_in wsL_law_r18_m, List.forall_mem_append.mpr ⟨run_in wsL_law_r10_m, List.forall_mem_append.mpr ⟨run_in wsL_law_r5_m, List.forall_mem_append.mpr ⟨run_in wsL_law_r20_m, List.forall_mem_append.mpr ⟨run_in wsL_law_r15_m, List.forall_mem_append.mpr ⟨run_in wsL_law_r20_m, List.forall_mem_append.mpr ⟨run_in wsL_law_r18_m, List.forall_mem_append.mpr ⟨run_in wsL_law_r1_m, List.forall_mem_append.mpr ⟨run_in wsL_law_r18_m, List.forall_mem_append.mpr ⟨run_in wsL_law_r19_m, List.forall_mem_append.mpr ⟨run_in wsL_law_r1_m, List.forall_mem_append.mpr ⟨run_in wsX50_m, List.forall_mem_append.mpr ⟨run_in wsX70_m, List.forall_mem_append.mpr ⟨run_in wsX40_m, List.forall_mem_append.mpr ⟨run_in wsX10_m, run_in wsX30_m⟩⟩⟩⟩⟩⟩⟩⟩⟩⟩⟩⟩⟩⟩⟩⟩⟩⟩⟩⟩⟩⟩⟩⟩) (by decide +kernel)
set_option maxRecDepth 20000 in
set_option maxRecDepth 100000 in
theorem gL_law_X7_report : GoodIn wsL_law (wsV RL 80 RX7 yX7_report wsX7_report) := goodIn_app (goodIn_sub (by rw [show ([.methodLink RL 80 yX7_report, .instanceMethod yX7_report, .selects RX7 yX7_report yX7_report, .initialized RX7] : List Cond) = ([8, 9, 10] : List Nat).filterMap (fun i => wsL_law_r20[i]?) ++ (([2] : List Nat).filterMap (fun i => wsL_law_r1[i]?)) from rfl]; exact List.forall_mem_append.mpr ⟨run_in wsL_law_r20_m, run_in wsL_law_r1_m⟩) (by decide +kernel)) ggL_law_X7_report
set_option maxRecDepth 20000 in
set_option maxRecDepth 100000 in
theorem ggL_law_X8_report : GoodIn wsL_law wsX8_report := goodIn_sub (by rw [show wsX8_report = ([22] : List Nat).filterMap (fun i => wsL_law_r20[i]?) ++ (([9] : List Nat).filterMap (fun i => wsL_law_r11[i]?) ++ (([13] : List Nat).filterMap (fun i => wsL_law_r3[i]?) ++ (([9, 10, 11] : List Nat).filterMap (fun i => wsL_law_r19[i]?) ++ (([5] : List Nat).filterMap (fun i => wsL_law_r1[i]?) ++ (([12] : List Nat).filterMap (fun i => wsL_law_r19[i]?) ++ (([11] : List Nat).filterMap (fun i => wsL_law_r11[i]?) ++ (([14, 15, 16, 17] : List Nat).filterMap (fun i => wsL_law_r6[i]?) ++ (([15] : List Nat).filterMap (fun i => wsL_law_r4[i]?) ++ (([11, 12, 13] : List Nat).filterMap (fun i => wsL_law_r6[i]?) ++ (([13, 14, 15, 16] : List Nat).filterMap (fun i => wsL_law_r19[i]?) ++ (([8, 10, 9, 11, 12] : List Nat).filterMap (fun i => wsL_law_r3[i]?) ++ (([15, 16, 17, 18] : List Nat).filterMap (fun i => wsL_law_r7[i]?) ++ (([10] : List Nat).filterMap (fun i => wsL_law_r2[i]?) ++ (([0, 1, 2, 3, 4, 5, 6, 7, 8, 9, 10, 11, 12, 13, 14, 15, 16, 17, 18, 19, 20, 21, 22, 23, 24, 25, 26, 27, 28, 29, 30, 31, 32, 33, 34, 35, 36] : List Nat).filterMap (fun i => wsX80[i]?))))))))))))))) from rfl]; exact List.forall_mem_append.mpr ⟨run_in wsL_law_r20_m, List.forall_mem_append.mpr ⟨run_in wsL_law_r11_m, List.forall_mem_append.mpr ⟨run_in wsL_law_r3_m, List.forall_mem_append.mpr ⟨run_in wsL_law_r19_m, List.forall_mem_append.mpr ⟨run_in wsL_law_r1_m, List.forall_mem_append.mpr ⟨run_in wsL_law_r19_m, List.forall_mem_append.mpr ⟨run_in wsL_law_r11_m, List.forall_mem_append.mpr ⟨run_in wsL_law_r6_m, List.forall_mem_append.mpr ⟨run_in wsL_law_r4_m, List.forall_mem_append.mpr ⟨run_in wsL_law_r6_m, List.forall_mem_append.mpr ⟨run_in wsL_law_r19_m, List.forall_mem_append.mpr ⟨run_in wsL_law_r3_m, List.forall_mem_append.mpr ⟨run_in wsL_law_r7_m, List.forall_mem_append.mpr ⟨run_in wsL_law_r2_m, run_in wsX80_m⟩⟩⟩⟩⟩⟩⟩⟩⟩⟩⟩⟩⟩⟩) (by decide +kernel)
set_option maxRecDepth 20000 in
set_option maxRecDepth 100000 in
theorem gL_law_X8_report : GoodIn wsL_law (wsV RL 83 RX8 yX8_report wsX8_report) := goodIn_app (goodIn_sub (by rw [show ([.methodLink RL 83 yX8_report, .instanceMethod yX8_report, .selects RX8 yX8_report yX8_report, .initialized RX8] : List Cond) = ([19, 20, 21] : List Nat).filterMap (fun i => wsL_law_r20[i]?) ++ (([5] : List Nat).filterMap (fun i => wsL_law_r1[i]?)) from rfl]; exact List.forall_mem_append.mpr ⟨run_in wsL_law_r20_m, run_in wsL_law_r1_m⟩) (by decide +kernel)) ggL_law_X8_report
set_option maxRecDepth 20000 in
set_option maxRecDepth 100000 in
theorem ggL_law_X7_known : GoodIn wsL_law wsX7_known := goodIn_sub (by rw [show wsX7_known = ([2] : List Nat).filterMap (fun i => wsL_law_r21[i]?) ++ (([2] : List Nat).filterMap (fun i => wsL_law_r7[i]?) ++ (([3] : List Nat).filterMap (fun i => wsL_law_r21[i]?) ++ (([4, 5, 6] : List Nat).filterMap (fun i => wsL_law_r5[i]?) ++ (([2] : List Nat).filterMap (fun i => wsL_law_r1[i]?) ++ (([7] : List Nat).filterMap (fun i => wsL_law_r5[i]?) ++ (([13] : List Nat).filterMap (fun i => wsL_law_r1[i]?) ++ (([4, 5, 6] : List Nat).filterMap (fun i => wsL_law_r7[i]?) ++ (([4] : List Nat).filterMap (fun i => wsL_law_r21[i]?) ++ (([8, 9] : List Nat).filterMap (fun i => wsL_law_r15[i]?) ++ (([0] : List Nat).filterMap (fun i => wsL_law_r4[i]?) ++ (([10] : List Nat).filterMap (fun i => wsL_law_r15[i]?) ++ (([9] : List Nat).filterMap (fun i => wsL_law_r4[i]?) ++ (([0, 1, 2, 3] : List Nat).filterMap (fun i => wsX40[i]?) ++ (([0, 1, 2, 3, 4, 5] : List Nat).filterMap (fun i => wsX50[i]?) ++ (([0, 1, 2, 3, 4, 5, 6, 7, 8, 9, 10, 11, 12, 13] : List Nat).filterMap (fun i => wsX70[i]?)))))))))))))))) from rfl]; exact List.forall_mem_append.mpr ⟨run_in wsL_law_r21_m, List.forall_mem_append.mpr ⟨run_in wsL_law_r7_m, List.forall_mem_append.mpr ⟨run_in wsL_law_r21_m, List.forall_mem_append.mpr ⟨run_in wsL_law_r5_m, List.forall_mem_append.mpr ⟨run_in wsL_law_r1_m, List.forall_mem_append.mpr ⟨run_in wsL_law_r5_m, List.forall_mem_append.mpr ⟨run_in wsL_law_r1_m, List.forall_mem_append.mpr ⟨run_in wsL_law_r7_m, List.forall_mem_append.mpr ⟨run_in wsL_law_r21_m, List.forall_mem_append.mpr ⟨run_in wsL_law_r15_m, List.forall_mem_append.mpr ⟨run_in wsL_law_r4_m, List.forall_mem_append.mpr ⟨run_in wsL_law_r15_m, List.forall_mem_append.mpr ⟨run_in wsL_law_r4_m, List.forall_mem_append.mpr ⟨run_in wsX40_m, List.forall_mem_append.mpr ⟨run_in wsX50_m, run_in wsX70_m⟩⟩⟩⟩⟩⟩⟩⟩⟩⟩⟩⟩⟩⟩⟩) (by decide +kernel)
set_option maxRecDepth 20000 in
set_option maxRecDepth 100000 in
theorem gL_law_X7_known : GoodIn wsL_law (wsV RL 84 RX7 yX7_known wsX7_known) := goodIn_app (goodIn_sub (by rw [show ([.methodLink RL 84 yX7_known, .instanceMethod yX7_known, .selects RX7 yX7_known yX7_known, .initialized RX7] : List Cond) = ([23] : List Nat).filterMap (fun i => wsL_law_r20[i]?) ++ (([0, 1] : List Nat).filterMap (fun i => wsL_law_r21[i]?) ++ (([2] : List Nat).filterMap (fun i => wsL_law_r1[i]?))) from rfl]; exact List.forall_mem_append.mpr ⟨run_in wsL_law_r20_m, List.forall_mem_append.mpr ⟨run_in wsL_law_r21_m, run_in wsL_law_r1_m⟩⟩) (by decide +kernel)) ggL_law_X7_known
set_option maxRecDepth 20000 in
set_option maxRecDepth 100000 in
theorem ggL_law_X8_known : GoodIn wsL_law wsX8_known := goodIn_sub (by rw [show wsX8_known = ([8] : List Nat).filterMap (fun i => wsL_law_r21[i]?) ++ (([14, 13] : List Nat).filterMap (fun i => wsL_law_r3[i]?) ++ (([14, 15, 16] : List Nat).filterMap (fun i => wsL_law_r6[i]?) ++ (([5] : List Nat).filterMap (fun i => wsL_law_r1[i]?) ++ (([17] : List Nat).filterMap (fun i => wsL_law_r6[i]?) ++ (([15] : List Nat).filterMap (fun i => wsL_law_r4[i]?) ++ (([11, 12, 13] : List Nat).filterMap (fun i => wsL_law_r6[i]?) ++ (([12, 13, 14, 15, 16, 17, 18] : List Nat).filterMap (fun i => wsL_law_r7[i]?) ++ (([10] : List Nat).filterMap (fun i => wsL_law_r2[i]?) ++ (([0, 1, 2, 3, 4, 5, 6, 7, 8, 9, 10, 11, 12, 13, 14, 15, 16, 17, 18, 19, 20, 21, 22, 23, 24, 25, 26, 27, 28, 29, 30, 31, 32, 33, 34, 35, 36] : List Nat).filterMap (fun i => wsX80[i]?)))))))))) from rfl]; exact List.forall_mem_append.mpr ⟨run_in wsL_law_r21_m, List.forall_mem_append.mpr ⟨run_in wsL_law_r3_m, List.forall_mem_append.mpr ⟨run_in wsL_law_r6_m, List.forall_mem_append.mpr ⟨run_in wsL_law_r1_m, List.forall_mem_append.mpr ⟨run_in wsL_law_r6_m, List.forall_mem_append.mpr ⟨run_in wsL_law_r4_m, List.forall_mem_append.mpr ⟨run_in wsL_law_r6_m, List.forall_mem_append.mpr ⟨run_in wsL_law_r7_m, List.forall_mem_append.mpr ⟨run_in wsL_law_r2_m, run_in wsX80_m⟩⟩⟩⟩⟩⟩⟩⟩⟩) (by decide +kernel)
set_option maxRecDepth 20000 in
set_option maxRecDepth 100000 in
theorem gL_law_X8_known : GoodIn wsL_law (wsV RL 87 RX8 yX8_known wsX8_known) := goodIn_app (goodIn_sub (by rw [show ([.methodLink RL 87 yX8_known, .instanceMethod yX8_known, .selects RX8 yX8_known yX8_known, .initialized RX8] : List Cond) = ([5, 6, 7] : List Nat).filterMap (fun i => wsL_law_r21[i]?) ++ (([5] : List Nat).filterMap (fun i => wsL_law_r1[i]?)) from rfl]; exact List.forall_mem_append.mpr ⟨run_in wsL_law_r21_m, run_in wsL_law_r1_m⟩) (by decide +kernel)) ggL_law_X8_known
set_option maxRecDepth 20000 in
set_option maxRecDepth 100000 in
theorem ggL_law_X7_knownDay : GoodIn wsL_law wsX7_knownDay := goodIn_sub (by rw [show wsX7_knownDay = ([12] : List Nat).filterMap (fun i => wsL_law_r21[i]?) ++ (([11] : List Nat).filterMap (fun i => wsL_law_r8[i]?) ++ (([13] : List Nat).filterMap (fun i => wsL_law_r21[i]?) ++ (([4, 5, 6] : List Nat).filterMap (fun i => wsL_law_r5[i]?) ++ (([2] : List Nat).filterMap (fun i => wsL_law_r1[i]?) ++ (([7] : List Nat).filterMap (fun i => wsL_law_r5[i]?) ++ (([13] : List Nat).filterMap (fun i => wsL_law_r1[i]?) ++ (([4] : List Nat).filterMap (fun i => wsL_law_r21[i]?) ++ (([8, 9] : List Nat).filterMap (fun i => wsL_law_r15[i]?) ++ (([0] : List Nat).filterMap (fun i => wsL_law_r4[i]?) ++ (([10] : List Nat).filterMap (fun i => wsL_law_r15[i]?) ++ (([9] : List Nat).filterMap (fun i => wsL_law_r4[i]?) ++ (([0, 1, 2, 3, 4, 5, 6, 7, 8, 9, 10, 11, 12, 13] : List Nat).filterMap (fun i => wsX70[i]?) ++ (([0, 1, 2, 3, 4, 5] : List Nat).filterMap (fun i => wsX50[i]?) ++ (([0, 1, 2, 3] : List Nat).filterMap (fun i => wsX40[i]?))))))))))))))) from rfl]; exact List.forall_mem_append.mpr ⟨run_in wsL_law_r21_m, List.forall_mem_append.mpr ⟨run_in wsL_law_r8_m, List.forall_mem_append.mpr ⟨run_in wsL_law_r21_m, List.forall_mem_append.mpr ⟨run_in wsL_law_r5_m, List.forall_mem_append.mpr ⟨run_in wsL_law_r1_m, List.forall_mem_append.mpr ⟨run_in wsL_law_r5_m, List.forall_mem_append.mpr ⟨run_in wsL_law_r1_m, List.forall_mem_append.mpr ⟨run_in wsL_law_r21_m, List.forall_mem_append.mpr ⟨run_in wsL_law_r15_m, List.forall_mem_append.mpr ⟨run_in wsL_law_r4_m, List.forall_mem_append.mpr ⟨run_in wsL_law_r15_m, List.forall_mem_append.mpr ⟨run_in wsL_law_r4_m, List.forall_mem_append.mpr ⟨run_in wsX70_m, List.forall_mem_append.mpr ⟨run_in wsX50_m, run_in wsX40_m⟩⟩⟩⟩⟩⟩⟩⟩⟩⟩⟩⟩⟩⟩) (by decide +kernel)
set_option maxRecDepth 20000 in
set_option maxRecDepth 100000 in
theorem gL_law_X7_knownDay : GoodIn wsL_law (wsV RL 88 RX7 yX7_knownDay wsX7_knownDay) := goodIn_app (goodIn_sub (by rw [show ([.methodLink RL 88 yX7_knownDay, .instanceMethod yX7_knownDay, .selects RX7 yX7_knownDay yX7_knownDay, .initialized RX7] : List Cond) = ([9, 10, 11] : List Nat).filterMap (fun i => wsL_law_r21[i]?) ++ (([2] : List Nat).filterMap (fun i => wsL_law_r1[i]?)) from rfl]; exact List.forall_mem_append.mpr ⟨run_in wsL_law_r21_m, run_in wsL_law_r1_m⟩) (by decide +kernel)) ggL_law_X7_knownDay
set_option maxRecDepth 20000 in
set_option maxRecDepth 100000 in
theorem ggL_law_X8_knownDay : GoodIn wsL_law wsX8_knownDay := goodIn_sub (by rw [show wsX8_knownDay = ([17] : List Nat).filterMap (fun i => wsL_law_r21[i]?) ++ (([9] : List Nat).filterMap (fun i => wsL_law_r11[i]?) ++ (([14, 12] : List Nat).filterMap (fun i => wsL_law_r3[i]?) ++ (([14, 15, 16] : List Nat).filterMap (fun i => wsL_law_r6[i]?) ++ (([5] : List Nat).filterMap (fun i => wsL_law_r1[i]?) ++ (([17] : List Nat).filterMap (fun i => wsL_law_r6[i]?) ++ (([15] : List Nat).filterMap (fun i => wsL_law_r4[i]?) ++ (([11, 12, 13] : List Nat).filterMap (fun i => wsL_law_r6[i]?) ++ (([0, 1, 2, 3, 4, 5, 6, 7, 8, 9, 10, 11, 12, 13, 14, 15, 16, 17, 18, 19, 20, 21, 22, 23, 24, 25, 26, 27, 28, 29, 30, 31, 32, 33, 34, 35, 36] : List Nat).filterMap (fun i => wsX80[i]?))))))))) from rfl]; exact List.forall_mem_append.mpr ⟨run_in wsL_law_r21_m, List.forall_mem_append.mpr ⟨run_in wsL_law_r11_m, List.forall_mem_append.mpr ⟨run_in wsL_law_r3_m, List.forall_mem_append.mpr ⟨run_in wsL_law_r6_m, List.forall_mem_append.mpr ⟨run_in wsL_law_r1_m, List.forall_mem_append.mpr ⟨run_in wsL_law_r6_m, List.forall_mem_append.mpr ⟨run_in wsL_law_r4_m, List.forall_mem_append.mpr ⟨run_in wsL_law_r6_m, run_in wsX80_m⟩⟩⟩⟩⟩⟩⟩⟩) (by decide +kernel)
set_option maxRecDepth 20000 in
set_option maxRecDepth 100000 in
theorem gL_law_X8_knownDay : GoodIn wsL_law (wsV RL 91 RX8 yX8_knownDay wsX8_knownDay) := goodIn_app (goodIn_sub (by rw [show ([.methodLink RL 91 yX8_knownDay, .instanceMethod yX8_knownDay, .selects RX8 yX8_knownDay yX8_knownDay, .initialized RX8] : List Cond) = ([14, 15, 16] : List Nat).filterMap (fun i => wsL_law_r21[i]?) ++ (([5] : List Nat).filterMap (fun i => wsL_law_r1[i]?)) from rfl]; exact List.forall_mem_append.mpr ⟨run_in wsL_law_r21_m, run_in wsL_law_r1_m⟩) (by decide +kernel)) ggL_law_X8_knownDay
set_option maxRecDepth 20000 in
set_option maxRecDepth 100000 in
theorem ggL_law_X7_next : GoodIn wsL_law wsX7_next := goodIn_sub (by rw [show wsX7_next = ([4] : List Nat).filterMap (fun i => wsL_law_r11[i]?) ++ (([22] : List Nat).filterMap (fun i => wsL_law_r1[i]?) ++ (([0, 1, 2] : List Nat).filterMap (fun i => wsL_law_r5[i]?) ++ (([2] : List Nat).filterMap (fun i => wsL_law_r1[i]?) ++ (([3, 4, 5, 6, 7] : List Nat).filterMap (fun i => wsL_law_r5[i]?) ++ (([13] : List Nat).filterMap (fun i => wsL_law_r1[i]?) ++ (([0, 1, 2, 3, 4, 5, 6, 7, 8, 9, 10, 11, 12, 13] : List Nat).filterMap (fun i => wsX70[i]?))))))) from rfl]; exact List.forall_mem_append.mpr ⟨run_in wsL_law_r11_m, List.forall_mem_append.mpr ⟨run_in wsL_law_r1_m, List.forall_mem_append.mpr ⟨run_in wsL_law_r5_m, List.forall_mem_append.mpr ⟨run_in wsL_law_r1_m, List.forall_mem_append.mpr ⟨run_in wsL_law_r5_m, List.forall_mem_append.mpr ⟨run_in wsL_law_r1_m, run_in wsX70_m⟩⟩⟩⟩⟩⟩) (by decide +kernel)
set_option maxRecDepth 20000 in
set_option maxRecDepth 100000 in
theorem gL_law_X7_next : GoodIn wsL_law (wsV RL 92 RX7 yX7_next wsX7_next) := goodIn_app (goodIn_sub (by rw [show ([.methodLink RL 92 yX7_next, .instanceMethod yX7_next, .selects RX7 yX7_next yX7_next, .initialized RX7] : List Cond) = ([18] : List Nat).filterMap (fun i => wsL_law_r21[i]?) ++ (([2, 3] : List Nat).filterMap (fun i => wsL_law_r11[i]?) ++ (([2] : List Nat).filterMap (fun i => wsL_law_r1[i]?))) from rfl]; exact List.forall_mem_append.mpr ⟨run_in wsL_law_r21_m, List.forall_mem_append.mpr ⟨run_in wsL_law_r11_m, run_in wsL_law_r1_m⟩⟩) (by decide +kernel)) ggL_law_X7_next
set_option maxRecDepth 20000 in
set_option maxRecDepth 100000 in
theorem ggL_law_X8_next : GoodIn wsL_law wsX8_next := goodIn_sub (by rw [show wsX8_next = ([19] : List Nat).filterMap (fun i => wsL_law_r11[i]?) ++ (([17] : List Nat).filterMap (fun i => wsL_law_r3[i]?) ++ (([10] : List Nat).filterMap (fun i => wsL_law_r6[i]?) ++ (([13, 14] : List Nat).filterMap (fun i => wsL_law_r2[i]?) ++ (([15] : List Nat).filterMap (fun i => wsL_law_r4[i]?) ++ (([14, 15, 16] : List Nat).filterMap (fun i => wsL_law_r6[i]?) ++ (([5] : List Nat).filterMap (fun i => wsL_law_r1[i]?) ++ (([17, 11, 12, 13, 18, 19, 20, 21] : List Nat).filterMap (fun i => wsL_law_r6[i]?) ++ (([0, 1, 2, 3, 4, 5, 6, 7, 8, 9, 10, 11, 12, 13, 14, 15, 16, 17, 18, 19, 20, 21, 22, 23, 24, 25, 26, 27, 28, 29, 30, 31, 32, 33, 34, 35, 36] : List Nat).filterMap (fun i => wsX80[i]?))))))))) from rfl]; exact List.forall_mem_append.mpr ⟨run_in wsL_law_r11_m, List.forall_mem_append.mpr ⟨run_in wsL_law_r3_m, List.forall_mem_append.mpr ⟨run_in wsL_law_r6_m, List.forall_mem_append.mpr ⟨run_in wsL_law_r2_m, List.forall_mem_append.mpr ⟨run_in wsL_law_r4_m, List.forall_mem_append.mpr ⟨run_in wsL_law_r6_m, List.forall_mem_append.mpr ⟨run_in wsL_law_r1_m, List.forall_mem_append.mpr ⟨run_in wsL_law_r6_m, run_in wsX80_m⟩⟩⟩⟩⟩⟩⟩⟩) (by decide +kernel)
set_option maxRecDepth 20000 in
set_option maxRecDepth 100000 in
theorem gL_law_X8_next : GoodIn wsL_law (wsV RL 95 RX8 yX8_next wsX8_next) := goodIn_app (goodIn_sub (by rw [show ([.methodLink RL 95 yX8_next, .instanceMethod yX8_next, .selects RX8 yX8_next yX8_next, .initialized RX8] : List Cond) = ([19] : List Nat).filterMap (fun i => wsL_law_r21[i]?) ++ (([17, 18] : List Nat).filterMap (fun i => wsL_law_r11[i]?) ++ (([5] : List Nat).filterMap (fun i => wsL_law_r1[i]?))) from rfl]; exact List.forall_mem_append.mpr ⟨run_in wsL_law_r21_m, List.forall_mem_append.mpr ⟨run_in wsL_law_r11_m, run_in wsL_law_r1_m⟩⟩) (by decide +kernel)) ggL_law_X8_next
set_option maxRecDepth 20000 in
set_option maxRecDepth 100000 in
theorem ggL_law_X7_want : GoodIn wsL_law wsX7_want := goodIn_sub (by rw [show wsX7_want = ([23] : List Nat).filterMap (fun i => wsL_law_r21[i]?) ++ (([23] : List Nat).filterMap (fun i => wsL_law_r1[i]?) ++ (([4, 5] : List Nat).filterMap (fun i => wsL_law_r7[i]?) ++ (([2] : List Nat).filterMap (fun i => wsL_law_r1[i]?) ++ (([6] : List Nat).filterMap (fun i => wsL_law_r7[i]?) ++ (([8, 9, 10] : List Nat).filterMap (fun i => wsL_law_r5[i]?) ++ (([0, 1, 2, 3, 4, 5, 6, 7, 8, 9, 10, 11, 12, 13] : List Nat).filterMap (fun i => wsX70[i]?))))))) from rfl]; exact List.forall_mem_append.mpr ⟨run_in wsL_law_r21_m, List.forall_mem_append.mpr ⟨run_in wsL_law_r1_m, List.forall_mem_append.mpr ⟨run_in wsL_law_r7_m, List.forall_mem_append.mpr ⟨run_in wsL_law_r1_m, List.forall_mem_append.mpr ⟨run_in wsL_law_r7_m, List.forall_mem_append.mpr ⟨run_in wsL_law_r5_m, run_in wsX70_m⟩⟩⟩⟩⟩⟩) (by decide +kernel)
set_option maxRecDepth 20000 in
set_option maxRecDepth 100000 in
theorem gL_law_X7_want : GoodIn wsL_law (wsV RL 96 RX7 yX7_want wsX7_want) := goodIn_app (goodIn_sub (by rw [show ([.methodLink RL 96 yX7_want, .instanceMethod yX7_want, .selects RX7 yX7_want yX7_want, .initialized RX7] : List Cond) = ([20, 21, 22] : List Nat).filterMap (fun i => wsL_law_r21[i]?) ++ (([2] : List Nat).filterMap (fun i => wsL_law_r1[i]?)) from rfl]; exact List.forall_mem_append.mpr ⟨run_in wsL_law_r21_m, run_in wsL_law_r1_m⟩) (by decide +kernel)) ggL_law_X7_want
set_option maxRecDepth 20000 in
set_option maxRecDepth 100000 in
theorem ggL_law_X8_want : GoodIn wsL_law wsX8_want := goodIn_sub (by rw [show wsX8_want = ([3] : List Nat).filterMap (fun i => wsL_law_r22[i]?) ++ (([15] : List Nat).filterMap (fun i => wsL_law_r3[i]?) ++ (([12, 13] : List Nat).filterMap (fun i => wsL_law_r7[i]?) ++ (([5] : List Nat).filterMap (fun i => wsL_law_r1[i]?) ++ (([14] : List Nat).filterMap (fun i => wsL_law_r7[i]?) ++ (([11, 12, 13] : List Nat).filterMap (fun i => wsL_law_r6[i]?) ++ (([0, 1, 2, 3, 4, 5, 6, 7, 8, 9, 10, 11, 12, 13, 14, 15, 16, 17, 18, 19, 20, 21, 22, 23, 24, 25, 26, 27, 28, 29, 30, 31, 32, 33, 34, 35, 36] : List Nat).filterMap (fun i => wsX80[i]?))))))) from rfl]; exact List.forall_mem_append.mpr ⟨run_in wsL_law_r22_m, List.forall_mem_append.mpr ⟨run_in wsL_law_r3_m, List.forall_mem_append.mpr ⟨run_in wsL_law_r7_m, List.forall_mem_append.mpr ⟨run_in wsL_law_r1_m, List.forall_mem_append.mpr ⟨run_in wsL_law_r7_m, List.forall_mem_append.mpr ⟨run_in wsL_law_r6_m, run_in wsX80_m⟩⟩⟩⟩⟩⟩) (by decide +kernel)
set_option maxRecDepth 20000 in
set_option maxRecDepth 100000 in
theorem gL_law_X8_want : GoodIn wsL_law (wsV RL 99 RX8 yX8_want wsX8_want) := goodIn_app (goodIn_sub (by rw [show ([.methodLink RL 99 yX8_want, .instanceMethod yX8_want, .selects RX8 yX8_want yX8_want, .initialized RX8] : List Cond) = ([0, 1, 2] : List Nat).filterMap (fun i => wsL_law_r22[i]?) ++ (([5] : List Nat).filterMap (fun i => wsL_law_r1[i]?)) from rfl]; exact List.forall_mem_append.mpr ⟨run_in wsL_law_r22_m, run_in wsL_law_r1_m⟩) (by decide +kernel)) ggL_law_X8_want
set_option maxRecDepth 20000 in
set_option maxRecDepth 100000 in
theorem ggL_law_X7_indent : GoodIn wsL_law wsX7_indent := goodIn_sub (by rw [show wsX7_indent = ([7, 8, 9, 10] : List Nat).filterMap (fun i => wsL_law_r22[i]?) ++ (([2] : List Nat).filterMap (fun i => wsL_law_r1[i]?) ++ (([11] : List Nat).filterMap (fun i => wsL_law_r22[i]?) ++ (([2] : List Nat).filterMap (fun i => wsL_law_r7[i]?) ++ (([1, 2, 3, 4] : List Nat).filterMap (fun i => wsL_law_r6[i]?) ++ (([23] : List Nat).filterMap (fun i => wsL_law_r1[i]?) ++ (([4, 5, 6, 7] : List Nat).filterMap (fun i => wsL_law_r5[i]?) ++ (([13] : List Nat).filterMap (fun i => wsL_law_r1[i]?) ++ (([4, 5, 6] : List Nat).filterMap (fun i => wsL_law_r7[i]?) ++ (([12, 13, 14, 15] : List Nat).filterMap (fun i => wsL_law_r22[i]?) ++ (([8, 9, 10] : List Nat).filterMap (fun i => wsL_law_r5[i]?) ++ (([0, 1, 2, 3] : List Nat).filterMap (fun i => wsX40[i]?) ++ (([0, 1, 2, 3, 4, 5, 6, 7, 8, 9, 10, 11, 12, 13] : List Nat).filterMap (fun i => wsX70[i]?))))))))))))) from rfl]; exact List.forall_mem_append.mpr ⟨run_in wsL_law_r22_m, List.forall_mem_append.mpr ⟨run_in wsL_law_r1_m, List.forall_mem_append.mpr ⟨run_in wsL_law_r22_m, List.forall_mem_append.mpr ⟨run_in wsL_law_r7_m, List.forall_mem_append.mpr ⟨run_in wsL_law_r6_m, List.forall_mem_append.mpr ⟨run_in wsL_law_r1_m, List.forall_mem_append.mpr ⟨run_in wsL_law_r5_m, List.forall_mem_append.mpr ⟨run_in wsL_law_r1_m, List.forall_mem_append.mpr ⟨run_in wsL_law_r7_m, List.forall_mem_append.mpr ⟨run_in wsL_law_r22_m, List.forall_mem_append.mpr ⟨run_in wsL_law_r5_m, List.forall_mem_append.mpr ⟨run_in wsX40_m, run_in wsX70_m⟩⟩⟩⟩⟩⟩⟩⟩⟩⟩⟩⟩) (by decide +kernel)
set_option maxRecDepth 20000 in
set_option maxRecDepth 100000 in
theorem gL_law_X7_indent : GoodIn wsL_law (wsV RL 100 RX7 yX7_indent wsX7_indent) := goodIn_app (goodIn_sub (by rw [show ([.methodLink RL 100 yX7_indent, .instanceMethod yX7_indent, .selects RX7 yX7_indent yX7_indent, .initialized RX7] : List Cond) = ([4, 5, 6] : List Nat).filterMap (fun i => wsL_law_r22[i]?) ++ (([2] : List Nat).filterMap (fun i => wsL_law_r1[i]?)) from rfl]; exact List.forall_mem_append.mpr ⟨run_in wsL_law_r22_m, run_in wsL_law_r1_m⟩) (by decide +kernel)) ggL_law_X7_indent
set_option maxRecDepth 20000 in
set_option maxRecDepth 100000 in
theorem ggL_law_X8_indent : GoodIn wsL_law wsX8_indent := goodIn_sub (by rw [show wsX8_indent = ([19, 20, 21, 22] : List Nat).filterMap (fun i => wsL_law_r22[i]?) ++ (([5] : List Nat).filterMap (fun i => wsL_law_r1[i]?) ++ (([23] : List Nat).filterMap (fun i => wsL_law_r22[i]?) ++ (([15] : List Nat).filterMap (fun i => wsL_law_r3[i]?) ++ (([14, 15, 16, 17] : List Nat).filterMap (fun i => wsL_law_r6[i]?) ++ (([15] : List Nat).filterMap (fun i => wsL_law_r4[i]?) ++ (([11, 12, 13] : List Nat).filterMap (fun i => wsL_law_r6[i]?) ++ (([12, 13, 14, 15, 16, 17, 18] : List Nat).filterMap (fun i => wsL_law_r7[i]?) ++ (([10] : List Nat).filterMap (fun i => wsL_law_r2[i]?) ++ (([0, 1, 2, 3, 4, 5, 6, 7, 8, 9, 10, 11, 12, 13, 14, 15, 16, 17, 18, 19, 20, 21, 22, 23, 24, 25, 26, 27, 28, 29, 30, 31, 32, 33, 34, 35, 36] : List Nat).filterMap (fun i => wsX80[i]?)))))))))) from rfl]; exact List.forall_mem_append.mpr ⟨run_in wsL_law_r22_m, List.forall_mem_append.mpr ⟨run_in wsL_law_r1_m, List.forall_mem_append.mpr ⟨run_in wsL_law_r22_m, List.forall_mem_append.mpr ⟨run_in wsL_law_r3_m, List.forall_mem_append.mpr ⟨run_in wsL_law_r6_m, List.forall_mem_append.mpr ⟨run_in wsL_law_r4_m, List.forall_mem_append.mpr ⟨run_in wsL_law_r6_m, List.forall_mem_append.mpr ⟨run_in wsL_law_r7_m, List.forall_mem_append.mpr ⟨run_in wsL_law_r2_m, run_in wsX80_m⟩⟩⟩⟩⟩⟩⟩⟩⟩) (by decide +kernel)
set_option maxRecDepth 20000 in
set_option maxRecDepth 100000 in
theorem gL_law_X8_indent : GoodIn wsL_law (wsV RL 103 RX8 yX8_indent wsX8_indent) := goodIn_app (goodIn_sub (by rw [show ([.methodLink RL 103 yX8_indent, .instanceMethod yX8_indent, .selects RX8 yX8_indent yX8_indent, .initialized RX8] : List Cond) = ([16, 17, 18] : List Nat).filterMap (fun i => wsL_law_r22[i]?) ++ (([5] : List Nat).filterMap (fun i => wsL_law_r1[i]?)) from rfl]; exact List.forall_mem_append.mpr ⟨run_in wsL_law_r22_m, run_in wsL_law_r1_m⟩) (by decide +kernel)) ggL_law_X8_indent
set_option maxRecDepth 20000 in
set_option maxRecDepth 100000 in
theorem ggL_law_X7_cost : GoodIn wsL_law wsX7_cost := goodIn_sub (by rw [show wsX7_cost = ([11] : List Nat).filterMap (fun i => wsL_law_r22[i]?) ++ (([2] : List Nat).filterMap (fun i => wsL_law_r7[i]?) ++ (([1, 2, 3, 4] : List Nat).filterMap (fun i => wsL_law_r6[i]?) ++ (([23] : List Nat).filterMap (fun i => wsL_law_r1[i]?) ++ (([4, 5, 6] : List Nat).filterMap (fun i => wsL_law_r5[i]?) ++ (([2] : List Nat).filterMap (fun i => wsL_law_r1[i]?) ++ (([7] : List Nat).filterMap (fun i => wsL_law_r5[i]?) ++ (([13] : List Nat).filterMap (fun i => wsL_law_r1[i]?) ++ (([4, 5, 6] : List Nat).filterMap (fun i => wsL_law_r7[i]?) ++ (([12, 13, 14, 15] : List Nat).filterMap (fun i => wsL_law_r22[i]?) ++ (([8, 9, 10] : List Nat).filterMap (fun i => wsL_law_r5[i]?) ++ (([0, 1, 2, 3] : List Nat).filterMap (fun i => wsX40[i]?) ++ (([0, 1, 2, 3, 4, 5, 6, 7, 8, 9, 10, 11, 12, 13] : List Nat).filterMap (fun i => wsX70[i]?))))))))))))) from rfl]; exact List.forall_mem_append.mpr ⟨run_in wsL_law_r22_m, List.forall_mem_append.mpr ⟨run_in wsL_law_r7_m, List.forall_mem_append.mpr ⟨run_in wsL_law_r6_m, List.forall_mem_append.mpr ⟨run_in wsL_law_r1_m, List.forall_mem_append.mpr ⟨run_in wsL_law_r5_m, List.forall_mem_append.mpr ⟨run_in wsL_law_r1_m, List.forall_mem_append.mpr ⟨run_in wsL_law_r5_m, List.forall_mem_append.mpr ⟨run_in wsL_law_r1_m, List.forall_mem_append.mpr ⟨run_in wsL_law_r7_m, List.forall_mem_append.mpr ⟨run_in wsL_law_r22_m, List.forall_mem_append.mpr ⟨run_in wsL_law_r5_m, List.forall_mem_append.mpr ⟨run_in wsX40_m, run_in wsX70_m⟩⟩⟩⟩⟩⟩⟩⟩⟩⟩⟩⟩) (by decide +kernel)
set_option maxRecDepth 20000 in
set_option maxRecDepth 100000 in
theorem gL_law_X7_cost : GoodIn wsL_law (wsV RL 104 RX7 yX7_cost wsX7_cost) := goodIn_app (goodIn_sub (by rw [show ([.methodLink RL 104 yX7_cost, .instanceMethod yX7_cost, .selects RX7 yX7_cost yX7_cost, .initialized RX7] : List Cond) = ([0] : List Nat).filterMap (fun i => wsL_law_r23[i]?) ++ (([9, 10] : List Nat).filterMap (fun i => wsL_law_r22[i]?) ++ (([2] : List Nat).filterMap (fun i => wsL_law_r1[i]?))) from rfl]; exact List.forall_mem_append.mpr ⟨run_in wsL_law_r23_m, List.forall_mem_append.mpr ⟨run_in wsL_law_r22_m, run_in wsL_law_r1_m⟩⟩) (by decide +kernel)) ggL_law_X7_cost
set_option maxRecDepth 20000 in
set_option maxRecDepth 100000 in
theorem ggL_law_X8_cost : GoodIn wsL_law wsX8_cost := goodIn_sub (by rw [show wsX8_cost = ([23] : List Nat).filterMap (fun i => wsL_law_r22[i]?) ++ (([15] : List Nat).filterMap (fun i => wsL_law_r3[i]?) ++ (([14, 15, 16] : List Nat).filterMap (fun i => wsL_law_r6[i]?) ++ (([5] : List Nat).filterMap (fun i => wsL_law_r1[i]?) ++ (([17] : List Nat).filterMap (fun i => wsL_law_r6[i]?) ++ (([15] : List Nat).filterMap (fun i => wsL_law_r4[i]?) ++ (([11, 12, 13] : List Nat).filterMap (fun i => wsL_law_r6[i]?) ++ (([12, 13, 14, 15, 16, 17, 18] : List Nat).filterMap (fun i => wsL_law_r7[i]?) ++ (([10] : List Nat).filterMap (fun i => wsL_law_r2[i]?) ++ (([0, 1, 2, 3, 4, 5, 6, 7, 8, 9, 10, 11, 12, 13, 14, 15, 16, 17, 18, 19, 20, 21, 22, 23, 24, 25, 26, 27, 28, 29, 30, 31, 32, 33, 34, 35, 36] : List Nat).filterMap (fun i => wsX80[i]?)))))))))) from rfl]; exact List.forall_mem_append.mpr ⟨run_in wsL_law_r22_m, List.forall_mem_append.mpr ⟨run_in wsL_law_r3_m, List.forall_mem_append.mpr ⟨run_in wsL_law_r6_m, List.forall_mem_append.mpr ⟨run_in wsL_law_r1_m, List.forall_mem_append.mpr ⟨run_in wsL_law_r6_m, List.forall_mem_append.mpr ⟨run_in wsL_law_r4_m, List.forall_mem_append.mpr ⟨run_in wsL_law_r6_m, List.forall_mem_append.mpr ⟨run_in wsL_law_r7_m, List.forall_mem_append.mpr ⟨run_in wsL_law_r2_m, run_in wsX80_m⟩⟩⟩⟩⟩⟩⟩⟩⟩) (by decide +kernel)
set_option maxRecDepth 20000 in
set_option maxRecDepth 100000 in
theorem gL_law_X8_cost : GoodIn wsL_law (wsV RL 108 RX8 yX8_cost wsX8_cost) := goodIn_app (goodIn_sub (by rw [show ([.methodLink RL 108 yX8_cost, .instanceMethod yX8_cost, .selects RX8 yX8_cost yX8_cost, .initialized RX8] : List Cond) = ([1] : List Nat).filterMap (fun i => wsL_law_r23[i]?) ++ (([21, 22] : List Nat).filterMap (fun i => wsL_law_r22[i]?) ++ (([5] : List Nat).filterMap (fun i => wsL_law_r1[i]?))) from rfl]; exact List.forall_mem_append.mpr ⟨run_in wsL_law_r23_m, List.forall_mem_append.mpr ⟨run_in wsL_law_r22_m, run_in wsL_law_r1_m⟩⟩) (by decide +kernel)) ggL_law_X8_cost
set_option maxRecDepth 20000 in
set_option maxRecDepth 100000 in
theorem ggL_law_X7_quarrel : GoodIn wsL_law wsX7_quarrel := goodIn_sub (by rw [show wsX7_quarrel = ([5] : List Nat).filterMap (fun i => wsL_law_r23[i]?) ++ (([12] : List Nat).filterMap (fun i => wsL_law_r8[i]?) ++ (([0, 1, 2] : List Nat).filterMap (fun i => wsL_law_r5[i]?) ++ (([2] : List Nat).filterMap (fun i => wsL_law_r1[i]?) ++ (([3, 4, 5, 6, 7] : List Nat).filterMap (fun i => wsL_law_r5[i]?) ++ (([13] : List Nat).filterMap (fun i => wsL_law_r1[i]?) ++ (([3, 4, 5, 6] : List Nat).filterMap (fun i => wsL_law_r12[i]?) ++ (([17] : List Nat).filterMap (fun i => wsL_law_r1[i]?) ++ (([6, 7, 8] : List Nat).filterMap (fun i => wsL_law_r23[i]?) ++ (([14] : List Nat).filterMap (fun i => wsL_law_r8[i]?) ++ (([9] : List Nat).filterMap (fun i => wsL_law_r23[i]?) ++ (([2, 3] : List Nat).filterMap (fun i => wsL_law_r10[i]?) ++ (([10, 11, 12, 13] : List Nat).filterMap (fun i => wsL_law_r23[i]?) ++ (([1] : List Nat).filterMap (fun i => wsL_law_r10[i]?) ++ (([14] : List Nat).filterMap (fun i => wsL_law_r23[i]?) ++ (([0, 1, 2, 3, 4, 5, 6, 7, 8, 9, 10, 11, 12, 13] : List Nat).filterMap (fun i => wsX70[i]?) ++ (([0, 1, 2, 3, 4, 5, 6, 7, 8, 9, 10] : List Nat).filterMap (fun i => wsX00[i]?))))))))))))))))) from rfl]; exact List.forall_mem_append.mpr ⟨run_in wsL_law_r23_m, List.forall_mem_append.mpr ⟨run_in wsL_law_r8_m, List.forall_mem_append.mpr ⟨run_in wsL_law_r5_m, List.forall_mem_append.mpr ⟨run_in wsL_law_r1_m, List.forall_mem_append.mpr ⟨run_in wsL_law_r5_m, List.forall_mem_append.mpr ⟨run_in wsL_law_r1_m, List.forall_mem_append.mpr ⟨run_in wsL_law_r12_m, List.forall_mem_append.mpr ⟨run_in wsL_law_r1_m, List.forall_mem_append.mpr ⟨run_in wsL_law_r23_m, List.forall_mem_append.mpr ⟨run_in wsL_law_r8_m, List.forall_mem_append.mpr ⟨run_in wsL_law_r23_m, List.forall_mem_append.mpr ⟨run_in wsL_law_r10_m, List.forall_mem_append.mpr ⟨run_in wsL_law_r23_m, List.forall_mem_append.mpr ⟨run_in wsL_law_r10_m, List.forall_mem_append.mpr ⟨run_in wsL_law_r23_m, List.forall_mem_append.mpr ⟨run_in wsX70_m, run_in wsX00_m⟩⟩⟩⟩⟩⟩⟩⟩⟩⟩⟩⟩⟩⟩⟩⟩) (by decide +kernel)
set_option maxRecDepth 20000 in
set_option maxRecDepth 100000 in
theorem gL_law_X7_quarrel : GoodIn wsL_law (wsV RL 109 RX7 yX7_quarrel wsX7_quarrel) := goodIn_app (goodIn_sub (by rw [show ([.methodLink RL 109 yX7_quarrel, .instanceMethod yX7_quarrel, .selects RX7 yX7_quarrel yX7_quarrel, .initialized RX7] : List Cond) = ([2, 3, 4] : List Nat).filterMap (fun i => wsL_law_r23[i]?) ++ (([2] : List Nat).filterMap (fun i => wsL_law_r1[i]?)) from rfl]; exact List.forall_mem_append.mpr ⟨run_in wsL_law_r23_m, run_in wsL_law_r1_m⟩) (by decide +kernel)) ggL_law_X7_quarrel
set_option maxRecDepth 20000 in
set_option maxRecDepth 100000 in
theorem ggL_law_X8_quarrel : GoodIn wsL_law wsX8_quarrel := goodIn_sub (by rw [show wsX8_quarrel = ([18] : List Nat).filterMap (fun i => wsL_law_r23[i]?) ++ (([10] : List Nat).filterMap (fun i => wsL_law_r11[i]?) ++ (([20, 21] : List Nat).filterMap (fun i => wsL_law_r2[i]?) ++ (([0, 7] : List Nat).filterMap (fun i => wsL_law_r3[i]?) ++ (([14, 15, 16] : List Nat).filterMap (fun i => wsL_law_r6[i]?) ++ (([5] : List Nat).filterMap (fun i => wsL_law_r1[i]?) ++ (([17] : List Nat).filterMap (fun i => wsL_law_r6[i]?) ++ (([15] : List Nat).filterMap (fun i => wsL_law_r4[i]?) ++ (([11, 12, 13] : List Nat).filterMap (fun i => wsL_law_r6[i]?) ++ (([0, 1, 2, 3, 4, 5, 6, 7, 8, 9, 10, 11, 12, 13, 14, 15, 16, 17, 18, 19, 20, 21, 22, 23, 24, 25, 26, 27, 28, 29, 30, 31, 32, 33, 34, 35, 36] : List Nat).filterMap (fun i => wsX80[i]?)))))))))) from rfl]; exact List.forall_mem_append.mpr ⟨run_in wsL_law_r23_m, List.forall_mem_append.mpr ⟨run_in wsL_law_r11_m, List.forall_mem_append.mpr ⟨run_in wsL_law_r2_m, List.forall_mem_append.mpr ⟨run_in wsL_law_r3_m, List.forall_mem_append.mpr ⟨run_in wsL_law_r6_m, List.forall_mem_append.mpr ⟨run_in wsL_law_r1_m, List.forall_mem_append.mpr ⟨run_in wsL_law_r6_m, List.forall_mem_append.mpr ⟨run_in wsL_law_r4_m, List.forall_mem_append.mpr ⟨run_in wsL_law_r6_m, run_in wsX80_m⟩⟩⟩⟩⟩⟩⟩⟩⟩) (by decide +kernel)
set_option maxRecDepth 20000 in
set_option maxRecDepth 100000 in
theorem gL_law_X8_quarrel : GoodIn wsL_law (wsV RL 112 RX8 yX8_quarrel wsX8_quarrel) := goodIn_app (goodIn_sub (by rw [show ([.methodLink RL 112 yX8_quarrel, .instanceMethod yX8_quarrel, .selects RX8 yX8_quarrel yX8_quarrel, .initialized RX8] : List Cond) = ([15, 16, 17] : List Nat).filterMap (fun i => wsL_law_r23[i]?) ++ (([5] : List Nat).filterMap (fun i => wsL_law_r1[i]?)) from rfl]; exact List.forall_mem_append.mpr ⟨run_in wsL_law_r23_m, run_in wsL_law_r1_m⟩) (by decide +kernel)) ggL_law_X8_quarrel
set_option maxRecDepth 20000 in
set_option maxRecDepth 100000 in
theorem ggL_law_X7_canoe : GoodIn wsL_law wsX7_canoe := goodIn_sub (by rw [show wsX7_canoe = ([22] : List Nat).filterMap (fun i => wsL_law_r23[i]?) ++ (([2] : List Nat).filterMap (fun i => wsL_law_r12[i]?) ++ (([23] : List Nat).filterMap (fun i => wsL_law_r23[i]?) ++ (([17, 19] : List Nat).filterMap (fun i => wsL_law_r10[i]?) ++ (([19] : List Nat).filterMap (fun i => wsL_law_r13[i]?) ++ (([1, 0] : List Nat).filterMap (fun i => wsL_law_r12[i]?) ++ (([0] : List Nat).filterMap (fun i => wsL_law_r24[i]?) ++ (([0] : List Nat).filterMap (fun i => wsL_law_r14[i]?) ++ (([22] : List Nat).filterMap (fun i => wsL_law_r8[i]?) ++ (([3, 4, 5] : List Nat).filterMap (fun i => wsL_law_r12[i]?) ++ (([2] : List Nat).filterMap (fun i => wsL_law_r1[i]?) ++ (([6] : List Nat).filterMap (fun i => wsL_law_r12[i]?) ++ (([17] : List Nat).filterMap (fun i => wsL_law_r1[i]?) ++ (([4, 5, 6] : List Nat).filterMap (fun i => wsL_law_r7[i]?) ++ (([0, 1, 2, 3, 4, 5, 6, 7, 8, 9, 10] : List Nat).filterMap (fun i => wsX00[i]?) ++ (([0, 1, 2, 3, 4, 5, 6, 7, 8, 9, 10, 11, 12, 13] : List Nat).filterMap (fun i => wsX70[i]?)))))))))))))))) from rfl]; exact List.forall_mem_append.mpr ⟨run_in wsL_law_r23_m, List.forall_mem_append.mpr ⟨run_in wsL_law_r12_m, List.forall_mem_append.mpr ⟨run_in wsL_law_r23_m, List.forall_mem_append.mpr ⟨run_in wsL_law_r10_m, List.forall_mem_append.mpr ⟨run_in wsL_law_r13_m, List.forall_mem_append.mpr ⟨run_in wsL_law_r12_m, List.forall_mem_append.mpr ⟨run_in wsL_law_r24_m, List.forall_mem_append.mpr ⟨run_in wsL_law_r14_m, List.forall_mem_append.mpr ⟨run_in wsL_law_r8_m, List.forall_mem_append.mpr ⟨run_in wsL_law_r12_m, List.forall_mem_append.mpr ⟨run_in wsL_law_r1_m, List.forall_mem_append.mpr ⟨run_in wsL_law_r12_m, List.forall_mem_append.mpr ⟨run_in wsL_law_r1_m, List.forall_mem_append.mpr ⟨run_in wsL_law_r7_m, List.forall_mem_append.mpr ⟨run_in wsX00_m, run_in wsX70_m⟩⟩⟩⟩⟩⟩⟩⟩⟩⟩⟩⟩⟩⟩⟩) (by decide +kernel)
set_option maxRecDepth 20000 in
set_option maxRecDepth 100000 in
theorem gL_law_X7_canoe : GoodIn wsL_law (wsV RL 113 RX7 yX7_canoe wsX7_canoe) := goodIn_app (goodIn_sub (by rw [show ([.methodLink RL 113 yX7_canoe, .instanceMethod yX7_canoe, .selects RX7 yX7_canoe yX7_canoe, .initialized RX7] : List Cond) = ([19, 20, 21] : List Nat).filterMap (fun i => wsL_law_r23[i]?) ++ (([2] : List Nat).filterMap (fun i => wsL_law_r1[i]?)) from rfl]; exact List.forall_mem_append.mpr ⟨run_in wsL_law_r23_m, run_in wsL_law_r1_m⟩) (by decide +kernel)) ggL_law_X7_canoe
set_option maxRecDepth 20000 in
set_option maxRecDepth 100000 in
theorem ggL_law_X8_canoe : GoodIn wsL_law wsX8_canoe := goodIn_sub (by rw [show wsX8_canoe = ([4] : List Nat).filterMap (fun i => wsL_law_r24[i]?) ++ (([4, 5] : List Nat).filterMap (fun i => wsL_law_r3[i]?) ++ (([20, 21, 22] : List Nat).filterMap (fun i => wsL_law_r2[i]?) ++ (([0] : List Nat).filterMap (fun i => wsL_law_r3[i]?) ++ (([23] : List Nat).filterMap (fun i => wsL_law_r2[i]?) ++ (([1, 2, 3] : List Nat).filterMap (fun i => wsL_law_r3[i]?) ++ (([22, 23] : List Nat).filterMap (fun i => wsL_law_r12[i]?) ++ (([0] : List Nat).filterMap (fun i => wsL_law_r13[i]?) ++ (([5] : List Nat).filterMap (fun i => wsL_law_r1[i]?) ++ (([1] : List Nat).filterMap (fun i => wsL_law_r13[i]?) ++ (([10] : List Nat).filterMap (fun i => wsL_law_r11[i]?) ++ (([11, 12, 13] : List Nat).filterMap (fun i => wsL_law_r6[i]?) ++ (([0, 1, 2, 3, 4, 5, 6, 7, 8, 9, 10, 11, 12, 13, 14, 15, 16, 17, 18, 19, 20, 21, 22, 23, 24, 25, 26, 27, 28, 29, 30, 31, 32, 33, 34, 35, 36] : List Nat).filterMap (fun i => wsX80[i]?))))))))))))) from rfl]; exact List.forall_mem_append.mpr ⟨run_in wsL_law_r24_m, List.forall_mem_append.mpr ⟨run_in wsL_law_r3_m, List.forall_mem_append.mpr ⟨run_in wsL_law_r2_m, List.forall_mem_append.mpr ⟨run_in wsL_law_r3_m, List.forall_mem_append.mpr ⟨run_in wsL_law_r2_m, List.forall_mem_append.mpr ⟨run_in wsL_law_r3_m, List.forall_mem_append.mpr ⟨run_in wsL_law_r12_m, List.forall_mem_append.mpr ⟨run_in wsL_law_r13_m, List.forall_mem_append.mpr ⟨run_in wsL_law_r1_m, List.forall_mem_append.mpr ⟨run_in wsL_law_r13_m, List.forall_mem_append.mpr ⟨run_in wsL_law_r11_m, List.forall_mem_append.mpr ⟨run_in wsL_law_r6_m, run_in wsX80_m⟩⟩⟩⟩⟩⟩⟩⟩⟩⟩⟩⟩) (by decide +kernel)
set_option maxRecDepth 20000 in
set_option maxRecDepth 100000 in
theorem gL_law_X8_canoe : GoodIn wsL_law (wsV RL 116 RX8 yX8_canoe wsX8_canoe) := goodIn_app (goodIn_sub (by rw [show ([.methodLink RL 116 yX8_canoe, .instanceMethod yX8_canoe, .selects RX8 yX8_canoe yX8_canoe, .initialized RX8] : List Cond) = ([1, 2, 3] : List Nat).filterMap (fun i => wsL_law_r24[i]?) ++ (([5] : List Nat).filterMap (fun i => wsL_law_r1[i]?)) from rfl]; exact List.forall_mem_append.mpr ⟨run_in wsL_law_r24_m, run_in wsL_law_r1_m⟩) (by decide +kernel)) ggL_law_X8_canoe
set_option maxRecDepth 20000 in
set_option maxRecDepth 100000 in
theorem ggL_law_X7_told : GoodIn wsL_law wsX7_told := goodIn_sub (by rw [show wsX7_told = ([8] : List Nat).filterMap (fun i => wsL_law_r24[i]?) ++ (([2] : List Nat).filterMap (fun i => wsL_law_r7[i]?) ++ (([4, 5, 6] : List Nat).filterMap (fun i => wsL_law_r5[i]?) ++ (([2] : List Nat).filterMap (fun i => wsL_law_r1[i]?) ++ (([7] : List Nat).filterMap (fun i => wsL_law_r5[i]?) ++ (([13] : List Nat).filterMap (fun i => wsL_law_r1[i]?) ++ (([4, 5, 6] : List Nat).filterMap (fun i => wsL_law_r7[i]?) ++ (([9, 10, 11, 12] : List Nat).filterMap (fun i => wsL_law_r24[i]?) ++ (([15, 16, 21, 22, 23] : List Nat).filterMap (fun i => wsL_law_r10[i]?) ++ (([0] : List Nat).filterMap (fun i => wsL_law_r11[i]?) ++ (([19] : List Nat).filterMap (fun i => wsL_law_r1[i]?) ++ (([13, 14, 15] : List Nat).filterMap (fun i => wsL_law_r24[i]?) ++ (([0] : List Nat).filterMap (fun i => wsL_law_r4[i]?) ++ (([16] : List Nat).filterMap (fun i => wsL_law_r24[i]?) ++ (([7] : List Nat).filterMap (fun i => wsL_law_r4[i]?) ++ (([0, 1, 2, 3] : List Nat).filterMap (fun i => wsX40[i]?) ++ (([0, 1, 2, 3, 4, 5, 6, 7, 8, 9, 10, 11, 12, 13] : List Nat).filterMap (fun i => wsX70[i]?) ++ (([0, 1, 2, 3, 4, 5] : List Nat).filterMap (fun i => wsX10[i]?) ++ (([0, 1, 2, 3, 4, 5] : List Nat).filterMap (fun i => wsX30[i]?) ++ (([0, 1, 2, 3, 4, 5] : List Nat).filterMap (fun i => wsX50[i]?)))))))))))))))))))) from rfl]; exact List.forall_mem_append.mpr ⟨run_in wsL_law_r24_m, List.forall_mem_append.mpr ⟨run_in wsL_law_r7_m, List.forall_mem_append.mpr ⟨run_in wsL_law_r5_m, List.forall_mem_append.mpr ⟨run_in wsL_law_r1_m, List.forall_mem_append.mpr ⟨run_in wsL_law_r5_m, List.forall_mem_append.mpr ⟨run_in wsL_law_r1_m, List.forall_mem_append.mpr ⟨run_in wsL_law_r7_m, List.forall_mem_append.mpr ⟨run_in wsL_law_r24_m, List.forall_mem_append.mpr ⟨run_in wsL_law_r10_m, List.forall_mem_append.mpr ⟨run_in wsL_law_r11_m, List.forall_mem_append.mpr ⟨run_in wsL_law_r1_m, List.forall_mem_append.mpr ⟨run_in wsL_law_r24_m, List.forall_mem_append.mpr ⟨run_in wsL_law_r4_m, List.forall_mem_append.mpr ⟨run_in wsL_law_r24_m, List.forall_mem_append.mpr ⟨run_in wsL_law_r4_m, List.forall_mem_append.mpr ⟨run_in wsX40_m, List.forall_mem_append.mpr ⟨run_in wsX70_m, List.forall_mem_append.mpr ⟨run_in wsX10_m, List.forall_mem_append.mpr ⟨run_in wsX30_m, run_in wsX50_m⟩⟩⟩⟩⟩⟩⟩⟩⟩⟩⟩⟩⟩⟩⟩⟩⟩⟩⟩) (by decide +kernel)
set_option maxRecDepth 20000 in
set_option maxRecDepth 100000 in
theorem gL_law_X7_told : GoodIn wsL_law (wsV RL 117 RX7 yX7_told wsX7_told) := goodIn_app (goodIn_sub (by rw [show ([.methodLink RL 117 yX7_told, .instanceMethod yX7_told, .selects RX7 yX7_told yX7_told, .initialized RX7] : List Cond) = ([5, 6, 7] : List Nat).filterMap (fun i => wsL_law_r24[i]?) ++ (([2] : List Nat).filterMap (fun i => wsL_law_r1[i]?)) from rfl]; exact List.forall_mem_append.mpr ⟨run_in wsL_law_r24_m, run_in wsL_law_r1_m⟩) (by decide +kernel)) ggL_law_X7_told
set_option maxRecDepth 20000 in
set_option maxRecDepth 100000 in
theorem ggL_law_X8_told : GoodIn wsL_law wsX8_told := goodIn_sub (by rw [show wsX8_told = ([20] : List Nat).filterMap (fun i => wsL_law_r24[i]?) ++ (([11] : List Nat).filterMap (fun i => wsL_law_r11[i]?) ++ (([10] : List Nat).filterMap (fun i => wsL_law_r3[i]?) ++ (([14, 15, 16] : List Nat).filterMap (fun i => wsL_law_r6[i]?) ++ (([5] : List Nat).filterMap (fun i => wsL_law_r1[i]?) ++ (([17] : List Nat).filterMap (fun i => wsL_law_r6[i]?) ++ (([15] : List Nat).filterMap (fun i => wsL_law_r4[i]?) ++ (([11, 12, 13] : List Nat).filterMap (fun i => wsL_law_r6[i]?) ++ (([15, 16, 17, 18] : List Nat).filterMap (fun i => wsL_law_r7[i]?) ++ (([10] : List Nat).filterMap (fun i => wsL_law_r2[i]?) ++ (([7] : List Nat).filterMap (fun i => wsL_law_r20[i]?) ++ (([16, 17, 18] : List Nat).filterMap (fun i => wsL_law_r17[i]?) ++ (([12] : List Nat).filterMap (fun i => wsL_law_r2[i]?) ++ (([0, 1, 2, 3, 4, 5, 6, 7, 8, 9, 10, 11, 12, 13, 14, 15, 16, 17, 18, 19, 20, 21, 22, 23, 24, 25, 26, 27, 28, 29, 30, 31, 32, 33, 34, 35, 36] : List Nat).filterMap (fun i => wsX80[i]?)))))))))))))) from rfl]; exact List.forall_mem_append.mpr ⟨run_in wsL_law_r24_m, List.forall_mem_append.mpr ⟨run_in wsL_law_r11_m, List.forall_mem_append.mpr ⟨run_in wsL_law_r3_m, List.forall_mem_append.mpr ⟨run_in wsL_law_r6_m, List.forall_mem_append.mpr ⟨run_in wsL_law_r1_m, List.forall_mem_append.mpr ⟨run_in wsL_law_r6_m, List.forall_mem_append.mpr ⟨run_in wsL_law_r4_m, List.forall_mem_append.mpr ⟨run_in wsL_law_r6_m, List.forall_mem_append.mpr ⟨run_in wsL_law_r7_m, List.forall_mem_append.mpr ⟨run_in wsL_law_r2_m, List.forall_mem_append.mpr ⟨run_in wsL_law_r20_m, List.forall_mem_append.mpr ⟨run_in wsL_law_r17_m, List.forall_mem_append.mpr ⟨run_in wsL_law_r2_m, run_in wsX80_m⟩⟩⟩⟩⟩⟩⟩⟩⟩⟩⟩⟩⟩) (by decide +kernel)
set_option maxRecDepth 20000 in
set_option maxRecDepth 100000 in
theorem gL_law_X8_told : GoodIn wsL_law (wsV RL 120 RX8 yX8_told wsX8_told) := goodIn_app (goodIn_sub (by rw [show ([.methodLink RL 120 yX8_told, .instanceMethod yX8_told, .selects RX8 yX8_told yX8_told, .initialized RX8] : List Cond) = ([17, 18, 19] : List Nat).filterMap (fun i => wsL_law_r24[i]?) ++ (([5] : List Nat).filterMap (fun i => wsL_law_r1[i]?)) from rfl]; exact List.forall_mem_append.mpr ⟨run_in wsL_law_r24_m, run_in wsL_law_r1_m⟩) (by decide +kernel)) ggL_law_X8_told
set_option maxRecDepth 20000 in
set_option maxRecDepth 100000 in
theorem ggL_law_X7_count : GoodIn wsL_law wsX7_count := goodIn_sub (by rw [show wsX7_count = ([0] : List Nat).filterMap (fun i => wsL_law_r25[i]?) ++ (([0] : List Nat).filterMap (fun i => wsL_law_r2[i]?) ++ (([1, 2, 3] : List Nat).filterMap (fun i => wsL_law_r25[i]?) ++ (([2] : List Nat).filterMap (fun i => wsL_law_r1[i]?) ++ (([4] : List Nat).filterMap (fun i => wsL_law_r25[i]?) ++ (([11] : List Nat).filterMap (fun i => wsL_law_r8[i]?) ++ (([22] : List Nat).filterMap (fun i => wsL_law_r3[i]?) ++ (([20] : List Nat).filterMap (fun i => wsL_law_r4[i]?) ++ (([12] : List Nat).filterMap (fun i => wsL_law_r8[i]?) ++ (([15] : List Nat).filterMap (fun i => wsL_law_r10[i]?) ++ (([12] : List Nat).filterMap (fun i => wsL_law_r12[i]?) ++ (([4, 5, 6] : List Nat).filterMap (fun i => wsL_law_r7[i]?) ++ (([8, 9, 10] : List Nat).filterMap (fun i => wsL_law_r5[i]?) ++ (([0, 1, 2, 3, 4, 5, 6, 7, 8, 9, 10, 11, 12, 13] : List Nat).filterMap (fun i => wsX70[i]?)))))))))))))) from rfl]; exact List.forall_mem_append.mpr ⟨run_in wsL_law_r25_m, List.forall_mem_append.mpr ⟨run_in wsL_law_r2_m, List.forall_mem_append.mpr ⟨run_in wsL_law_r25_m, List.forall_mem_append.mpr ⟨run_in wsL_law_r1_m, List.forall_mem_append.mpr ⟨run_in wsL_law_r25_m, List.forall_mem_append.mpr ⟨run_in wsL_law_r8_m, List.forall_mem_append.mpr ⟨run_in wsL_law_r3_m, List.forall_mem_append.mpr ⟨run_in wsL_law_r4_m, List.forall_mem_append.mpr ⟨run_in wsL_law_r8_m, List.forall_mem_append.mpr ⟨run_in wsL_law_r10_m, List.forall_mem_append.mpr ⟨run_in wsL_law_r12_m, List.forall_mem_append.mpr ⟨run_in wsL_law_r7_m, List.forall_mem_append.mpr ⟨run_in wsL_law_r5_m, run_in wsX70_m⟩⟩⟩⟩⟩⟩⟩⟩⟩⟩⟩⟩⟩) (by decide +kernel)
set_option maxRecDepth 20000 in
set_option maxRecDepth 100000 in
theorem gL_law_X7_count : GoodIn wsL_law (wsV RL 121 RX7 yX7_count wsX7_count) := goodIn_app (goodIn_sub (by rw [show ([.methodLink RL 121 yX7_count, .instanceMethod yX7_count, .selects RX7 yX7_count yX7_count, .initialized RX7] : List Cond) = ([21, 22, 23] : List Nat).filterMap (fun i => wsL_law_r24[i]?) ++ (([2] : List Nat).filterMap (fun i => wsL_law_r1[i]?)) from rfl]; exact List.forall_mem_append.mpr ⟨run_in wsL_law_r24_m, run_in wsL_law_r1_m⟩) (by decide +kernel)) ggL_law_X7_count
set_option maxRecDepth 20000 in
set_option maxRecDepth 100000 in
theorem ggL_law_X8_count : GoodIn wsL_law wsX8_count := goodIn_sub (by rw [show wsX8_count = ([8] : List Nat).filterMap (fun i => wsL_law_r25[i]?) ++ (([16] : List Nat).filterMap (fun i => wsL_law_r3[i]?) ++ (([9] : List Nat).filterMap (fun i => wsL_law_r11[i]?) ++ (([15] : List Nat).filterMap (fun i => wsL_law_r4[i]?) ++ (([10] : List Nat).filterMap (fun i => wsL_law_r6[i]?) ++ (([10, 11] : List Nat).filterMap (fun i => wsL_law_r11[i]?) ++ (([17] : List Nat).filterMap (fun i => wsL_law_r12[i]?) ++ (([11, 12] : List Nat).filterMap (fun i => wsL_law_r6[i]?) ++ (([5] : List Nat).filterMap (fun i => wsL_law_r1[i]?) ++ (([13] : List Nat).filterMap (fun i => wsL_law_r6[i]?) ++ (([12, 13, 14] : List Nat).filterMap (fun i => wsL_law_r7[i]?) ++ (([0, 1, 2, 3, 4, 5, 6, 7, 8, 9, 10, 11, 12, 13, 14, 15, 16, 17, 18, 19, 20, 21, 22, 23, 24, 25, 26, 27, 28, 29, 30, 31, 32, 33, 34, 35, 36] : List Nat).filterMap (fun i => wsX80[i]?)))))))))))) from rfl]; exact List.forall_mem_append.mpr ⟨run_in wsL_law_r25_m, List.forall_mem_append.mpr ⟨run_in wsL_law_r3_m, List.forall_mem_append.mpr ⟨run_in wsL_law_r11_m, List.forall_mem_append.mpr ⟨run_in wsL_law_r4_m, List.forall_mem_append.mpr ⟨run_in wsL_law_r6_m, List.forall_mem_append.mpr ⟨run_in wsL_law_r11_m, List.forall_mem_append.mpr ⟨run_in wsL_law_r12_m, List.forall_mem_append.mpr ⟨run_in wsL_law_r6_m, List.forall_mem_append.mpr ⟨run_in wsL_law_r1_m, List.forall_mem_append.mpr ⟨run_in wsL_law_r6_m, List.forall_mem_append.mpr ⟨run_in wsL_law_r7_m, run_in wsX80_m⟩⟩⟩⟩⟩⟩⟩⟩⟩⟩⟩) (by decide +kernel)
set_option maxRecDepth 20000 in
set_option maxRecDepth 100000 in
theorem gL_law_X8_count : GoodIn wsL_law (wsV RL 124 RX8 yX8_count wsX8_count) := goodIn_app (goodIn_sub (by rw [show ([.methodLink RL 124 yX8_count, .instanceMethod yX8_count, .selects RX8 yX8_count yX8_count, .initialized RX8] : List Cond) = ([5, 6, 7] : List Nat).filterMap (fun i => wsL_law_r25[i]?) ++ (([5] : List Nat).filterMap (fun i => wsL_law_r1[i]?)) from rfl]; exact List.forall_mem_append.mpr ⟨run_in wsL_law_r25_m, run_in wsL_law_r1_m⟩) (by decide +kernel)) ggL_law_X8_count
