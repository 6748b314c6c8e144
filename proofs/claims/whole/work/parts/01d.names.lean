theorem dX8_lose_8 : decode cX8_lose 8 = .ok (.iload_n 3, 1) := by decide +kernel
theorem dX8_lose_9 : decode cX8_lose 9 = .ok (.iconst 0, 1) := by decide +kernel
theorem dX8_lose_10 : decode cX8_lose 10 = .ok (.iconst 1, 1) := by decide +kernel
theorem dX8_lose_11 : decode cX8_lose 11 = .ok (.invokestatic 89, 3) := by decide +kernel
theorem dX8_lose_14 : decode cX8_lose 14 = .ok (.istore 5, 2) := by decide +kernel
theorem dX8_lose_16 : decode cX8_lose 16 = .ok (.aload_n 0, 1) := by decide +kernel
theorem dX8_lose_17 : decode cX8_lose 17 = .ok (.iload 4, 2) := by decide +kernel
theorem dX8_lose_19 : decode cX8_lose 19 = .ok (.iload 5, 2) := by decide +kernel
theorem dX8_lose_21 : decode cX8_lose 21 = .ok (.iload 4, 2) := by decide +kernel
theorem dX8_lose_23 : decode cX8_lose 23 = .ok (.ifCond .eq 26, 3) := by decide +kernel
theorem dX8_lose_26 : decode cX8_lose 26 = .ok (.iload 5, 2) := by decide +kernel
theorem dX8_lose_28 : decode cX8_lose 28 = .ok (.ifCond .eq 21, 3) := by decide +kernel
theorem dX8_lose_31 : decode cX8_lose 31 = .ok (.aload_n 0, 1) := by decide +kernel
theorem dX8_lose_32 : decode cX8_lose 32 = .ok (.getfield 26, 3) := by decide +kernel
theorem dX8_lose_35 : decode cX8_lose 35 = .ok (.iload_n 1, 1) := by decide +kernel
theorem dX8_lose_36 : decode cX8_lose 36 = .ok (.iload_n 2, 1) := by decide +kernel
theorem dX8_lose_37 : decode cX8_lose 37 = .ok (.iload_n 3, 1) := by decide +kernel
theorem dX8_lose_38 : decode cX8_lose 38 = .ok (.invokestatic 118, 3) := by decide +kernel
theorem dX8_lose_41 : decode cX8_lose 41 = .ok (.iaload, 1) := by decide +kernel
theorem dX8_lose_42 : decode cX8_lose 42 = .ok (.ifCond .le 7, 3) := by decide +kernel
theorem dX8_lose_45 : decode cX8_lose 45 = .ok (.iconst 1, 1) := by decide +kernel
theorem dX8_lose_46 : decode cX8_lose 46 = .ok (.goto 4, 3) := by decide +kernel
theorem dX8_lose_49 : decode cX8_lose 49 = .ok (.iconst 0, 1) := by decide +kernel
theorem dX8_lose_50 : decode cX8_lose 50 = .ok (.invokevirtual 106, 3) := by decide +kernel
theorem dX8_lose_53 : decode cX8_lose 53 = .ok (.ifCond .ne 5, 3) := by decide +kernel
theorem dX8_lose_56 : decode cX8_lose 56 = .ok (.iconst 0, 1) := by decide +kernel
theorem dX8_lose_57 : decode cX8_lose 57 = .ok (.ireturn, 1) := by decide +kernel
theorem dX8_lose_58 : decode cX8_lose 58 = .ok (.aload_n 0, 1) := by decide +kernel
theorem dX8_lose_59 : decode cX8_lose 59 = .ok (.getfield 26, 3) := by decide +kernel
theorem dX8_lose_62 : decode cX8_lose 62 = .ok (.iload_n 1, 1) := by decide +kernel
theorem dX8_lose_63 : decode cX8_lose 63 = .ok (.iload_n 2, 1) := by decide +kernel
theorem dX8_lose_64 : decode cX8_lose 64 = .ok (.iload_n 3, 1) := by decide +kernel
theorem dX8_lose_65 : decode cX8_lose 65 = .ok (.invokestatic 118, 3) := by decide +kernel
theorem dX8_lose_68 : decode cX8_lose 68 = .ok (.dup2, 1) := by decide +kernel
theorem dX8_lose_69 : decode cX8_lose 69 = .ok (.iaload, 1) := by decide +kernel
theorem dX8_lose_70 : decode cX8_lose 70 = .ok (.iconst 1, 1) := by decide +kernel
theorem dX8_lose_71 : decode cX8_lose 71 = .ok (.isub, 1) := by decide +kernel
theorem dX8_lose_72 : decode cX8_lose 72 = .ok (.iastore, 1) := by decide +kernel
theorem dX8_lose_73 : decode cX8_lose 73 = .ok (.aload_n 0, 1) := by decide +kernel
theorem dX8_lose_74 : decode cX8_lose 74 = .ok (.getfield 26, 3) := by decide +kernel
theorem dX8_lose_77 : decode cX8_lose 77 = .ok (.iload_n 1, 1) := by decide +kernel
theorem dX8_lose_78 : decode cX8_lose 78 = .ok (.iload_n 2, 1) := by decide +kernel
theorem dX8_lose_79 : decode cX8_lose 79 = .ok (.iload_n 3, 1) := by decide +kernel
theorem dX8_lose_80 : decode cX8_lose 80 = .ok (.invokestatic 118, 3) := by decide +kernel
theorem dX8_lose_83 : decode cX8_lose 83 = .ok (.iaload, 1) := by decide +kernel
theorem dX8_lose_84 : decode cX8_lose 84 = .ok (.ireturn, 1) := by decide +kernel
set_option maxRecDepth 20000 in
theorem ggX8_recover_X8_neighbour : GoodIn wsX8_recover wsX8_neighbour := goodIn_r _ [12, 2, 3, 16, 17, 18, 19, 20, 21, 22, 23, 24, 25, 26, 27, 28, 29, 30, 31, 32, 33, 34, 35, 36, 37, 38, 39, 40, 41] (by decide +kernel) (by decide +kernel)
set_option maxRecDepth 20000 in
theorem gX8_recover_X8_neighbour : GoodIn wsX8_recover (wsV RX8 93 RX8 yX8_neighbour wsX8_neighbour) := goodIn_app (goodIn_of _ (by decide +kernel)) ggX8_recover_X8_neighbour
set_option maxRecDepth 20000 in
theorem ggX8_recover_X8_bufferOf : GoodIn wsX8_recover wsX8_bufferOf := goodIn_r _ [15] (by decide +kernel) (by decide +kernel)
set_option maxRecDepth 20000 in
theorem gX8_recover_X8_bufferOf : GoodIn wsX8_recover (va_wsS RX8 110 yX8_bufferOf wsX8_bufferOf) := goodIn_app (goodIn_of _ (by decide +kernel)) ggX8_recover_X8_bufferOf
theorem dX8_recover_0 : decode cX8_recover 0 = .ok (.aload_n 0, 1) := by decide +kernel
theorem dX8_recover_1 : decode cX8_recover 1 = .ok (.iconst 0, 1) := by decide +kernel
theorem dX8_recover_2 : decode cX8_recover 2 = .ok (.putfield 79, 3) := by decide +kernel
theorem dX8_recover_5 : decode cX8_recover 5 = .ok (.iconst 0, 1) := by decide +kernel
theorem dX8_recover_6 : decode cX8_recover 6 = .ok (.istore_n 1, 1) := by decide +kernel
theorem dX8_recover_7 : decode cX8_recover 7 = .ok (.iconst 0, 1) := by decide +kernel
theorem dX8_recover_8 : decode cX8_recover 8 = .ok (.istore_n 2, 1) := by decide +kernel
theorem dX8_recover_9 : decode cX8_recover 9 = .ok (.iload_n 2, 1) := by decide +kernel
theorem dX8_recover_10 : decode cX8_recover 10 = .ok (.aload_n 0, 1) := by decide +kernel
theorem dX8_recover_11 : decode cX8_recover 11 = .ok (.getfield 7, 3) := by decide +kernel
theorem dX8_recover_14 : decode cX8_recover 14 = .ok (.aload_n 0, 1) := by decide +kernel
theorem dX8_recover_15 : decode cX8_recover 15 = .ok (.getfield 13, 3) := by decide +kernel
theorem dX8_recover_18 : decode cX8_recover 18 = .ok (.imul, 1) := by decide +kernel
theorem dX8_recover_19 : decode cX8_recover 19 = .ok (.iconst 4, 1) := by decide +kernel
theorem dX8_recover_20 : decode cX8_recover 20 = .ok (.imul, 1) := by decide +kernel
theorem dX8_recover_21 : decode cX8_recover 21 = .ok (.iconst 2, 1) := by decide +kernel
theorem dX8_recover_22 : decode cX8_recover 22 = .ok (.imul, 1) := by decide +kernel
theorem dX8_recover_23 : decode cX8_recover 23 = .ok (.if_icmp .ge 110, 3) := by decide +kernel
theorem dX8_recover_26 : decode cX8_recover 26 = .ok (.iload_n 2, 1) := by decide +kernel
theorem dX8_recover_27 : decode cX8_recover 27 = .ok (.iconst 2, 1) := by decide +kernel
theorem dX8_recover_28 : decode cX8_recover 28 = .ok (.idiv, 1) := by decide +kernel
theorem dX8_recover_29 : decode cX8_recover 29 = .ok (.iconst 4, 1) := by decide +kernel
theorem dX8_recover_30 : decode cX8_recover 30 = .ok (.idiv, 1) := by decide +kernel
theorem dX8_recover_31 : decode cX8_recover 31 = .ok (.istore_n 3, 1) := by decide +kernel
theorem dX8_recover_32 : decode cX8_recover 32 = .ok (.iload_n 2, 1) := by decide +kernel
theorem dX8_recover_33 : decode cX8_recover 33 = .ok (.iconst 2, 1) := by decide +kernel
theorem dX8_recover_34 : decode cX8_recover 34 = .ok (.idiv, 1) := by decide +kernel
theorem dX8_recover_35 : decode cX8_recover 35 = .ok (.iconst 4, 1) := by decide +kernel
theorem dX8_recover_36 : decode cX8_recover 36 = .ok (.irem, 1) := by decide +kernel
theorem dX8_recover_37 : decode cX8_recover 37 = .ok (.istore 4, 2) := by decide +kernel
theorem dX8_recover_39 : decode cX8_recover 39 = .ok (.aload_n 0, 1) := by decide +kernel
theorem dX8_recover_40 : decode cX8_recover 40 = .ok (.iload_n 3, 1) := by decide +kernel
theorem dX8_recover_41 : decode cX8_recover 41 = .ok (.iload 4, 2) := by decide +kernel
theorem dX8_recover_43 : decode cX8_recover 43 = .ok (.invokevirtual 93, 3) := by decide +kernel
theorem dX8_recover_46 : decode cX8_recover 46 = .ok (.ifCond .lt 81, 3) := by decide +kernel
theorem dX8_recover_49 : decode cX8_recover 49 = .ok (.aload_n 0, 1) := by decide +kernel
theorem dX8_recover_50 : decode cX8_recover 50 = .ok (.getfield 16, 3) := by decide +kernel
theorem dX8_recover_53 : decode cX8_recover 53 = .ok (.aload_n 0, 1) := by decide +kernel
theorem dX8_recover_54 : decode cX8_recover 54 = .ok (.getfield 23, 3) := by decide +kernel
theorem dX8_recover_57 : decode cX8_recover 57 = .ok (.aload_n 0, 1) := by decide +kernel
theorem dX8_recover_58 : decode cX8_recover 58 = .ok (.iload_n 3, 1) := by decide +kernel
theorem dX8_recover_59 : decode cX8_recover 59 = .ok (.iload 4, 2) := by decide +kernel
theorem dX8_recover_61 : decode cX8_recover 61 = .ok (.invokevirtual 93, 3) := by decide +kernel
theorem dX8_recover_64 : decode cX8_recover 64 = .ok (.iload 4, 2) := by decide +kernel
theorem dX8_recover_66 : decode cX8_recover 66 = .ok (.iload_n 2, 1) := by decide +kernel
theorem dX8_recover_67 : decode cX8_recover 67 = .ok (.iconst 2, 1) := by decide +kernel
theorem dX8_recover_68 : decode cX8_recover 68 = .ok (.irem, 1) := by decide +kernel
theorem dX8_recover_69 : decode cX8_recover 69 = .ok (.invokestatic 110, 3) := by decide +kernel
theorem dX8_recover_72 : decode cX8_recover 72 = .ok (.iaload, 1) := by decide +kernel
theorem dX8_recover_73 : decode cX8_recover 73 = .ok (.isub, 1) := by decide +kernel
theorem dX8_recover_74 : decode cX8_recover 74 = .ok (.istore 5, 2) := by decide +kernel
theorem dX8_recover_76 : decode cX8_recover 76 = .ok (.iconst 0, 1) := by decide +kernel
theorem dX8_recover_77 : decode cX8_recover 77 = .ok (.istore 6, 2) := by decide +kernel
theorem dX8_recover_79 : decode cX8_recover 79 = .ok (.iload 6, 2) := by decide +kernel
theorem dX8_recover_81 : decode cX8_recover 81 = .ok (.iconst 5, 1) := by decide +kernel
theorem dX8_recover_82 : decode cX8_recover 82 = .ok (.if_icmp .ge 25, 3) := by decide +kernel
theorem dX8_recover_85 : decode cX8_recover 85 = .ok (.iload 5, 2) := by decide +kernel
theorem dX8_recover_87 : decode cX8_recover 87 = .ok (.aload_n 0, 1) := by decide +kernel
theorem dX8_recover_88 : decode cX8_recover 88 = .ok (.getfield 29, 3) := by decide +kernel
theorem dX8_recover_91 : decode cX8_recover 91 = .ok (.iconst 5, 1) := by decide +kernel
theorem dX8_recover_92 : decode cX8_recover 92 = .ok (.iload_n 2, 1) := by decide +kernel
theorem dX8_recover_93 : decode cX8_recover 93 = .ok (.imul, 1) := by decide +kernel
theorem dX8_recover_94 : decode cX8_recover 94 = .ok (.iload 6, 2) := by decide +kernel
theorem dX8_recover_96 : decode cX8_recover 96 = .ok (.iadd, 1) := by decide +kernel
theorem dX8_recover_97 : decode cX8_recover 97 = .ok (.iaload, 1) := by decide +kernel
theorem dX8_recover_98 : decode cX8_recover 98 = .ok (.isub, 1) := by decide +kernel
theorem dX8_recover_99 : decode cX8_recover 99 = .ok (.istore 5, 2) := by decide +kernel
theorem dX8_recover_101 : decode cX8_recover 101 = .ok (.iinc 6 1, 3) := by decide +kernel
theorem dX8_recover_104 : decode cX8_recover 104 = .ok (.goto (-25), 3) := by decide +kernel
theorem dX8_recover_107 : decode cX8_recover 107 = .ok (.iload_n 1, 1) := by decide +kernel
theorem dX8_recover_108 : decode cX8_recover 108 = .ok (.iload 5, 2) := by decide +kernel
theorem dX8_recover_110 : decode cX8_recover 110 = .ok (.aload_n 0, 1) := by decide +kernel
theorem dX8_recover_111 : decode cX8_recover 111 = .ok (.getfield 26, 3) := by decide +kernel
theorem dX8_recover_114 : decode cX8_recover 114 = .ok (.iload_n 2, 1) := by decide +kernel
theorem dX8_recover_115 : decode cX8_recover 115 = .ok (.iaload, 1) := by decide +kernel
theorem dX8_recover_116 : decode cX8_recover 116 = .ok (.isub, 1) := by decide +kernel
theorem dX8_recover_117 : decode cX8_recover 117 = .ok (.iadd, 1) := by decide +kernel
theorem dX8_recover_118 : decode cX8_recover 118 = .ok (.istore_n 1, 1) := by decide +kernel
theorem dX8_recover_119 : decode cX8_recover 119 = .ok (.aload_n 0, 1) := by decide +kernel
theorem dX8_recover_120 : decode cX8_recover 120 = .ok (.getfield 26, 3) := by decide +kernel
theorem dX8_recover_123 : decode cX8_recover 123 = .ok (.iload_n 2, 1) := by decide +kernel
theorem dX8_recover_124 : decode cX8_recover 124 = .ok (.iload 5, 2) := by decide +kernel
theorem dX8_recover_126 : decode cX8_recover 126 = .ok (.iastore, 1) := by decide +kernel
theorem dX8_recover_127 : decode cX8_recover 127 = .ok (.iinc 2 1, 3) := by decide +kernel
theorem dX8_recover_130 : decode cX8_recover 130 = .ok (.goto (-121), 3) := by decide +kernel
theorem dX8_recover_133 : decode cX8_recover 133 = .ok (.iload_n 1, 1) := by decide +kernel
theorem dX8_recover_134 : decode cX8_recover 134 = .ok (.ireturn, 1) := by decide +kernel
theorem dX8_tick_0 : decode cX8_tick 0 = .ok (.aload_n 0, 1) := by decide +kernel
theorem dX8_tick_1 : decode cX8_tick 1 = .ok (.iconst 0, 1) := by decide +kernel
theorem dX8_tick_2 : decode cX8_tick 2 = .ok (.putfield 79, 3) := by decide +kernel
theorem dX8_tick_5 : decode cX8_tick 5 = .ok (.aload_n 0, 1) := by decide +kernel
theorem dX8_tick_6 : decode cX8_tick 6 = .ok (.getfield 100, 3) := by decide +kernel
theorem dX8_tick_9 : decode cX8_tick 9 = .ok (.ireturn, 1) := by decide +kernel
theorem dX8_packets_0 : decode cX8_packets 0 = .ok (.aload_n 0, 1) := by decide +kernel
theorem dX8_packets_1 : decode cX8_packets 1 = .ok (.iconst 0, 1) := by decide +kernel
theorem dX8_packets_2 : decode cX8_packets 2 = .ok (.putfield 79, 3) := by decide +kernel
theorem dX8_packets_5 : decode cX8_packets 5 = .ok (.aload_n 0, 1) := by decide +kernel
theorem dX8_packets_6 : decode cX8_packets 6 = .ok (.getfield 82, 3) := by decide +kernel
theorem dX8_packets_9 : decode cX8_packets 9 = .ok (.ireturn, 1) := by decide +kernel
theorem dX8_arrived_0 : decode cX8_arrived 0 = .ok (.aload_n 0, 1) := by decide +kernel
theorem dX8_arrived_1 : decode cX8_arrived 1 = .ok (.iconst 0, 1) := by decide +kernel
theorem dX8_arrived_2 : decode cX8_arrived 2 = .ok (.putfield 79, 3) := by decide +kernel
theorem dX8_arrived_5 : decode cX8_arrived 5 = .ok (.aload_n 0, 1) := by decide +kernel
theorem dX8_arrived_6 : decode cX8_arrived 6 = .ok (.getfield 103, 3) := by decide +kernel
theorem dX8_arrived_9 : decode cX8_arrived 9 = .ok (.ireturn, 1) := by decide +kernel
set_option maxRecDepth 20000 in
theorem ggX8_credits_X8_isLink : GoodIn wsX8_credits wsX8_isLink := goodIn_r _ [6, 7, 8, 9, 5, 10, 11, 12, 13, 14, 15, 16, 17, 18, 19, 28, 29, 30, 31, 32, 33, 34, 35, 36, 37, 38, 39, 40, 41, 42, 43, 44, 45, 46, 47, 48, 49, 50, 51, 52, 53] (by decide +kernel) (by decide +kernel)
set_option maxRecDepth 20000 in
theorem gX8_credits_X8_isLink : GoodIn wsX8_credits (wsV RX8 147 RX8 yX8_isLink wsX8_isLink) := goodIn_app (goodIn_of _ (by decide +kernel)) ggX8_credits_X8_isLink
set_option maxRecDepth 20000 in
theorem ggX8_credits_X8_isWithin : GoodIn wsX8_credits wsX8_isWithin := goodIn_r _ [15] (by decide +kernel) (by decide +kernel)
set_option maxRecDepth 20000 in
theorem gX8_credits_X8_isWithin : GoodIn wsX8_credits (va_wsS RX8 89 yX8_isWithin wsX8_isWithin) := goodIn_app (goodIn_of _ (by decide +kernel)) ggX8_credits_X8_isWithin
set_option maxRecDepth 20000 in
theorem ggX8_credits_X8_goes : GoodIn wsX8_credits wsX8_goes := goodIn_r _ [23, 24, 28, 29, 30, 31, 32, 33, 34, 35, 36, 37, 38, 39, 40, 41, 42, 43, 44, 45, 46, 47, 48, 49, 50, 51, 52, 53] (by decide +kernel) (by decide +kernel)
set_option maxRecDepth 20000 in
theorem gX8_credits_X8_goes : GoodIn wsX8_credits (wsV RX8 106 RX8 yX8_goes wsX8_goes) := goodIn_app (goodIn_of _ (by decide +kernel)) ggX8_credits_X8_goes
set_option maxRecDepth 20000 in
theorem ggX8_credits_X8_linkOf : GoodIn wsX8_credits wsX8_linkOf := goodIn_r _ [27] (by decide +kernel) (by decide +kernel)
set_option maxRecDepth 20000 in
theorem gX8_credits_X8_linkOf : GoodIn wsX8_credits (va_wsS RX8 118 yX8_linkOf wsX8_linkOf) := goodIn_app (goodIn_of _ (by decide +kernel)) ggX8_credits_X8_linkOf
theorem dX8_credits_0 : decode cX8_credits 0 = .ok (.aload_n 0, 1) := by decide +kernel
theorem dX8_credits_1 : decode cX8_credits 1 = .ok (.aload_n 0, 1) := by decide +kernel
theorem dX8_credits_2 : decode cX8_credits 2 = .ok (.iload_n 1, 1) := by decide +kernel
theorem dX8_credits_3 : decode cX8_credits 3 = .ok (.iload_n 2, 1) := by decide +kernel
theorem dX8_credits_4 : decode cX8_credits 4 = .ok (.invokevirtual 147, 3) := by decide +kernel
theorem dX8_credits_7 : decode cX8_credits 7 = .ok (.iload_n 3, 1) := by decide +kernel
theorem dX8_credits_8 : decode cX8_credits 8 = .ok (.iconst 0, 1) := by decide +kernel
theorem dX8_credits_9 : decode cX8_credits 9 = .ok (.iconst 1, 1) := by decide +kernel
theorem dX8_credits_10 : decode cX8_credits 10 = .ok (.invokestatic 89, 3) := by decide +kernel
theorem dX8_credits_13 : decode cX8_credits 13 = .ok (.iconst 1, 1) := by decide +kernel
theorem dX8_credits_14 : decode cX8_credits 14 = .ok (.invokevirtual 106, 3) := by decide +kernel
theorem dX8_credits_17 : decode cX8_credits 17 = .ok (.ifCond .eq 17, 3) := by decide +kernel
theorem dX8_credits_20 : decode cX8_credits 20 = .ok (.aload_n 0, 1) := by decide +kernel
theorem dX8_credits_21 : decode cX8_credits 21 = .ok (.getfield 26, 3) := by decide +kernel
theorem dX8_credits_24 : decode cX8_credits 24 = .ok (.iload_n 1, 1) := by decide +kernel
theorem dX8_credits_25 : decode cX8_credits 25 = .ok (.iload_n 2, 1) := by decide +kernel
theorem dX8_credits_26 : decode cX8_credits 26 = .ok (.iload_n 3, 1) := by decide +kernel
theorem dX8_credits_27 : decode cX8_credits 27 = .ok (.invokestatic 118, 3) := by decide +kernel
theorem dX8_credits_30 : decode cX8_credits 30 = .ok (.iaload, 1) := by decide +kernel
theorem dX8_credits_31 : decode cX8_credits 31 = .ok (.goto 4, 3) := by decide +kernel
theorem dX8_credits_34 : decode cX8_credits 34 = .ok (.iconst 0, 1) := by decide +kernel
theorem dX8_credits_35 : decode cX8_credits 35 = .ok (.ireturn, 1) := by decide +kernel
set_option maxRecDepth 20000 in
theorem ggX8_inBuffer_X8_isSwitch : GoodIn wsX8_inBuffer wsX8_isSwitch := goodIn_r _ [6, 7, 8, 20, 21, 22, 23, 24, 25, 26, 27, 28, 29, 30, 31, 32, 33, 34, 35, 36, 37, 38, 39, 40, 41, 42, 43, 44, 45] (by decide +kernel) (by decide +kernel)
set_option maxRecDepth 20000 in
theorem gX8_inBuffer_X8_isSwitch : GoodIn wsX8_inBuffer (wsV RX8 85 RX8 yX8_isSwitch wsX8_isSwitch) := goodIn_app (goodIn_of _ (by decide +kernel)) ggX8_inBuffer_X8_isSwitch
set_option maxRecDepth 20000 in
theorem ggX8_inBuffer_X8_isWithin : GoodIn wsX8_inBuffer wsX8_isWithin := goodIn_r _ [11] (by decide +kernel) (by decide +kernel)
set_option maxRecDepth 20000 in
theorem gX8_inBuffer_X8_isWithin : GoodIn wsX8_inBuffer (va_wsS RX8 89 yX8_isWithin wsX8_isWithin) := goodIn_app (goodIn_of _ (by decide +kernel)) ggX8_inBuffer_X8_isWithin
set_option maxRecDepth 20000 in
theorem ggX8_inBuffer_X8_goes : GoodIn wsX8_inBuffer wsX8_goes := goodIn_r _ [15, 16, 20, 21, 22, 23, 24, 25, 26, 27, 28, 29, 30, 31, 32, 33, 34, 35, 36, 37, 38, 39, 40, 41, 42, 43, 44, 45] (by decide +kernel) (by decide +kernel)
set_option maxRecDepth 20000 in
theorem gX8_inBuffer_X8_goes : GoodIn wsX8_inBuffer (wsV RX8 106 RX8 yX8_goes wsX8_goes) := goodIn_app (goodIn_of _ (by decide +kernel)) ggX8_inBuffer_X8_goes
set_option maxRecDepth 20000 in
theorem ggX8_inBuffer_X8_bufferOf : GoodIn wsX8_inBuffer wsX8_bufferOf := goodIn_r _ [19] (by decide +kernel) (by decide +kernel)
set_option maxRecDepth 20000 in
theorem gX8_inBuffer_X8_bufferOf : GoodIn wsX8_inBuffer (va_wsS RX8 110 yX8_bufferOf wsX8_bufferOf) := goodIn_app (goodIn_of _ (by decide +kernel)) ggX8_inBuffer_X8_bufferOf
theorem dX8_inBuffer_0 : decode cX8_inBuffer 0 = .ok (.aload_n 0, 1) := by decide +kernel
theorem dX8_inBuffer_1 : decode cX8_inBuffer 1 = .ok (.aload_n 0, 1) := by decide +kernel
theorem dX8_inBuffer_2 : decode cX8_inBuffer 2 = .ok (.iload_n 1, 1) := by decide +kernel
theorem dX8_inBuffer_3 : decode cX8_inBuffer 3 = .ok (.invokevirtual 85, 3) := by decide +kernel
theorem dX8_inBuffer_6 : decode cX8_inBuffer 6 = .ok (.iload_n 2, 1) := by decide +kernel
theorem dX8_inBuffer_7 : decode cX8_inBuffer 7 = .ok (.iconst 0, 1) := by decide +kernel
theorem dX8_inBuffer_8 : decode cX8_inBuffer 8 = .ok (.iconst 4, 1) := by decide +kernel
theorem dX8_inBuffer_9 : decode cX8_inBuffer 9 = .ok (.invokestatic 89, 3) := by decide +kernel
theorem dX8_inBuffer_12 : decode cX8_inBuffer 12 = .ok (.ifCond .eq 16, 3) := by decide +kernel
theorem dX8_inBuffer_15 : decode cX8_inBuffer 15 = .ok (.iload_n 3, 1) := by decide +kernel
theorem dX8_inBuffer_16 : decode cX8_inBuffer 16 = .ok (.iconst 0, 1) := by decide +kernel
theorem dX8_inBuffer_17 : decode cX8_inBuffer 17 = .ok (.iconst 1, 1) := by decide +kernel
theorem dX8_inBuffer_18 : decode cX8_inBuffer 18 = .ok (.invokestatic 89, 3) := by decide +kernel
theorem dX8_inBuffer_21 : decode cX8_inBuffer 21 = .ok (.ifCond .eq 7, 3) := by decide +kernel
theorem dX8_inBuffer_24 : decode cX8_inBuffer 24 = .ok (.iconst 1, 1) := by decide +kernel
theorem dX8_inBuffer_25 : decode cX8_inBuffer 25 = .ok (.goto 4, 3) := by decide +kernel
theorem dX8_inBuffer_28 : decode cX8_inBuffer 28 = .ok (.iconst 0, 1) := by decide +kernel
theorem dX8_inBuffer_29 : decode cX8_inBuffer 29 = .ok (.iconst 1, 1) := by decide +kernel
theorem dX8_inBuffer_30 : decode cX8_inBuffer 30 = .ok (.invokevirtual 106, 3) := by decide +kernel
theorem dX8_inBuffer_33 : decode cX8_inBuffer 33 = .ok (.ifCond .eq 17, 3) := by decide +kernel
theorem dX8_inBuffer_36 : decode cX8_inBuffer 36 = .ok (.aload_n 0, 1) := by decide +kernel
theorem dX8_inBuffer_37 : decode cX8_inBuffer 37 = .ok (.getfield 23, 3) := by decide +kernel
theorem dX8_inBuffer_40 : decode cX8_inBuffer 40 = .ok (.iload_n 1, 1) := by decide +kernel
theorem dX8_inBuffer_41 : decode cX8_inBuffer 41 = .ok (.iload_n 2, 1) := by decide +kernel
theorem dX8_inBuffer_42 : decode cX8_inBuffer 42 = .ok (.iload_n 3, 1) := by decide +kernel
theorem dX8_inBuffer_43 : decode cX8_inBuffer 43 = .ok (.invokestatic 110, 3) := by decide +kernel
theorem dX8_inBuffer_46 : decode cX8_inBuffer 46 = .ok (.iaload, 1) := by decide +kernel
theorem dX8_inBuffer_47 : decode cX8_inBuffer 47 = .ok (.goto 4, 3) := by decide +kernel
theorem dX8_inBuffer_50 : decode cX8_inBuffer 50 = .ok (.iconst 0, 1) := by decide +kernel
theorem dX8_inBuffer_51 : decode cX8_inBuffer 51 = .ok (.ireturn, 1) := by decide +kernel
set_option maxRecDepth 20000 in
theorem ggX8_gap_X8_isSwitch : GoodIn wsX8_gap wsX8_isSwitch := goodIn_r _ [6, 7, 8, 14, 15, 16, 17, 18, 19, 20, 21, 22, 23, 24, 25, 26, 27, 28, 29, 30, 31, 32, 33, 34, 35, 36, 37, 38, 39] (by decide +kernel) (by decide +kernel)
set_option maxRecDepth 20000 in
theorem gX8_gap_X8_isSwitch : GoodIn wsX8_gap (wsV RX8 85 RX8 yX8_isSwitch wsX8_isSwitch) := goodIn_app (goodIn_of _ (by decide +kernel)) ggX8_gap_X8_isSwitch
set_option maxRecDepth 20000 in
theorem ggX8_gap_X8_goes : GoodIn wsX8_gap wsX8_goes := goodIn_r _ [12, 13, 14, 15, 16, 17, 18, 19, 20, 21, 22, 23, 24, 25, 26, 27, 28, 29, 30, 31, 32, 33, 34, 35, 36, 37, 38, 39] (by decide +kernel) (by decide +kernel)
set_option maxRecDepth 20000 in
theorem gX8_gap_X8_goes : GoodIn wsX8_gap (wsV RX8 106 RX8 yX8_goes wsX8_goes) := goodIn_app (goodIn_of _ (by decide +kernel)) ggX8_gap_X8_goes
theorem dX8_gap_0 : decode cX8_gap 0 = .ok (.aload_n 0, 1) := by decide +kernel
theorem dX8_gap_1 : decode cX8_gap 1 = .ok (.aload_n 0, 1) := by decide +kernel
theorem dX8_gap_2 : decode cX8_gap 2 = .ok (.iload_n 1, 1) := by decide +kernel
theorem dX8_gap_3 : decode cX8_gap 3 = .ok (.invokevirtual 85, 3) := by decide +kernel
theorem dX8_gap_6 : decode cX8_gap 6 = .ok (.iconst 1, 1) := by decide +kernel
theorem dX8_gap_7 : decode cX8_gap 7 = .ok (.iconst 1, 1) := by decide +kernel
theorem dX8_gap_8 : decode cX8_gap 8 = .ok (.invokevirtual 106, 3) := by decide +kernel
theorem dX8_gap_11 : decode cX8_gap 11 = .ok (.ifCond .eq 12, 3) := by decide +kernel
theorem dX8_gap_14 : decode cX8_gap 14 = .ok (.aload_n 0, 1) := by decide +kernel
theorem dX8_gap_15 : decode cX8_gap 15 = .ok (.getfield 35, 3) := by decide +kernel
theorem dX8_gap_18 : decode cX8_gap 18 = .ok (.iload_n 1, 1) := by decide +kernel
theorem dX8_gap_19 : decode cX8_gap 19 = .ok (.iaload, 1) := by decide +kernel
theorem dX8_gap_20 : decode cX8_gap 20 = .ok (.goto 4, 3) := by decide +kernel
theorem dX8_gap_23 : decode cX8_gap 23 = .ok (.iconst 0, 1) := by decide +kernel
theorem dX8_gap_24 : decode cX8_gap 24 = .ok (.ireturn, 1) := by decide +kernel
set_option maxRecDepth 20000 in
theorem ggX8_placeOf_X8_isPacket : GoodIn wsX8_placeOf wsX8_isPacket := goodIn_r _ [6, 7, 13, 14, 15, 16, 17, 18, 19, 20, 21, 22, 23, 24, 25, 26, 27, 28, 29, 30, 31, 32, 33, 34, 35, 36, 37, 38] (by decide +kernel) (by decide +kernel)
set_option maxRecDepth 20000 in
theorem gX8_placeOf_X8_isPacket : GoodIn wsX8_placeOf (wsV RX8 151 RX8 yX8_isPacket wsX8_isPacket) := goodIn_app (goodIn_of _ (by decide +kernel)) ggX8_placeOf_X8_isPacket
set_option maxRecDepth 20000 in
theorem ggX8_placeOf_X8_goes : GoodIn wsX8_placeOf wsX8_goes := goodIn_r _ [11, 12, 13, 14, 15, 16, 17, 18, 19, 20, 21, 22, 23, 24, 25, 26, 27, 28, 29, 30, 31, 32, 33, 34, 35, 36, 37, 38] (by decide +kernel) (by decide +kernel)
set_option maxRecDepth 20000 in
theorem gX8_placeOf_X8_goes : GoodIn wsX8_placeOf (wsV RX8 106 RX8 yX8_goes wsX8_goes) := goodIn_app (goodIn_of _ (by decide +kernel)) ggX8_placeOf_X8_goes
theorem dX8_placeOf_0 : decode cX8_placeOf 0 = .ok (.aload_n 0, 1) := by decide +kernel
theorem dX8_placeOf_1 : decode cX8_placeOf 1 = .ok (.aload_n 0, 1) := by decide +kernel
theorem dX8_placeOf_2 : decode cX8_placeOf 2 = .ok (.iload_n 1, 1) := by decide +kernel
theorem dX8_placeOf_3 : decode cX8_placeOf 3 = .ok (.invokevirtual 151, 3) := by decide +kernel
theorem dX8_placeOf_6 : decode cX8_placeOf 6 = .ok (.iconst 1, 1) := by decide +kernel
theorem dX8_placeOf_7 : decode cX8_placeOf 7 = .ok (.iconst 1, 1) := by decide +kernel
theorem dX8_placeOf_8 : decode cX8_placeOf 8 = .ok (.invokevirtual 106, 3) := by decide +kernel
theorem dX8_placeOf_11 : decode cX8_placeOf 11 = .ok (.ifCond .eq 12, 3) := by decide +kernel
theorem dX8_placeOf_14 : decode cX8_placeOf 14 = .ok (.aload_n 0, 1) := by decide +kernel
theorem dX8_placeOf_15 : decode cX8_placeOf 15 = .ok (.getfield 57, 3) := by decide +kernel
theorem dX8_placeOf_18 : decode cX8_placeOf 18 = .ok (.iload_n 1, 1) := by decide +kernel
theorem dX8_placeOf_19 : decode cX8_placeOf 19 = .ok (.iaload, 1) := by decide +kernel
theorem dX8_placeOf_20 : decode cX8_placeOf 20 = .ok (.goto 4, 3) := by decide +kernel
theorem dX8_placeOf_23 : decode cX8_placeOf 23 = .ok (.iconst 0, 1) := by decide +kernel
theorem dX8_placeOf_24 : decode cX8_placeOf 24 = .ok (.ireturn, 1) := by decide +kernel
set_option maxRecDepth 20000 in
theorem ggX8_hops_X8_isPacket : GoodIn wsX8_hops wsX8_isPacket := goodIn_r _ [6, 7, 13, 14, 15, 16, 17, 18, 19, 20, 21, 22, 23, 24, 25, 26, 27, 28, 29, 30, 31, 32, 33, 34, 35, 36, 37, 38] (by decide +kernel) (by decide +kernel)
set_option maxRecDepth 20000 in
theorem gX8_hops_X8_isPacket : GoodIn wsX8_hops (wsV RX8 151 RX8 yX8_isPacket wsX8_isPacket) := goodIn_app (goodIn_of _ (by decide +kernel)) ggX8_hops_X8_isPacket
set_option maxRecDepth 20000 in
theorem ggX8_hops_X8_goes : GoodIn wsX8_hops wsX8_goes := goodIn_r _ [11, 12, 13, 14, 15, 16, 17, 18, 19, 20, 21, 22, 23, 24, 25, 26, 27, 28, 29, 30, 31, 32, 33, 34, 35, 36, 37, 38] (by decide +kernel) (by decide +kernel)
set_option maxRecDepth 20000 in
theorem gX8_hops_X8_goes : GoodIn wsX8_hops (wsV RX8 106 RX8 yX8_goes wsX8_goes) := goodIn_app (goodIn_of _ (by decide +kernel)) ggX8_hops_X8_goes
theorem dX8_hops_0 : decode cX8_hops 0 = .ok (.aload_n 0, 1) := by decide +kernel
theorem dX8_hops_1 : decode cX8_hops 1 = .ok (.aload_n 0, 1) := by decide +kernel
theorem dX8_hops_2 : decode cX8_hops 2 = .ok (.iload_n 1, 1) := by decide +kernel
theorem dX8_hops_3 : decode cX8_hops 3 = .ok (.invokevirtual 151, 3) := by decide +kernel
theorem dX8_hops_6 : decode cX8_hops 6 = .ok (.iconst 1, 1) := by decide +kernel
theorem dX8_hops_7 : decode cX8_hops 7 = .ok (.iconst 1, 1) := by decide +kernel
theorem dX8_hops_8 : decode cX8_hops 8 = .ok (.invokevirtual 106, 3) := by decide +kernel
theorem dX8_hops_11 : decode cX8_hops 11 = .ok (.ifCond .eq 12, 3) := by decide +kernel
theorem dX8_hops_14 : decode cX8_hops 14 = .ok (.aload_n 0, 1) := by decide +kernel
theorem dX8_hops_15 : decode cX8_hops 15 = .ok (.getfield 60, 3) := by decide +kernel
theorem dX8_hops_18 : decode cX8_hops 18 = .ok (.iload_n 1, 1) := by decide +kernel
theorem dX8_hops_19 : decode cX8_hops 19 = .ok (.iaload, 1) := by decide +kernel
theorem dX8_hops_20 : decode cX8_hops 20 = .ok (.goto 4, 3) := by decide +kernel
theorem dX8_hops_23 : decode cX8_hops 23 = .ok (.iconst 0, 1) := by decide +kernel
theorem dX8_hops_24 : decode cX8_hops 24 = .ok (.ireturn, 1) := by decide +kernel
set_option maxRecDepth 20000 in
theorem ggX8_isMarked_X8_isPacket : GoodIn wsX8_isMarked wsX8_isPacket := goodIn_r _ [6, 7, 13, 14, 15, 16, 17, 18, 19, 20, 21, 22, 23, 24, 25, 26, 27, 28, 29, 30, 31, 32, 33, 34, 35, 36, 37, 38] (by decide +kernel) (by decide +kernel)
set_option maxRecDepth 20000 in
theorem gX8_isMarked_X8_isPacket : GoodIn wsX8_isMarked (wsV RX8 151 RX8 yX8_isPacket wsX8_isPacket) := goodIn_app (goodIn_of _ (by decide +kernel)) ggX8_isMarked_X8_isPacket
set_option maxRecDepth 20000 in
theorem ggX8_isMarked_X8_goes : GoodIn wsX8_isMarked wsX8_goes := goodIn_r _ [11, 12, 13, 14, 15, 16, 17, 18, 19, 20, 21, 22, 23, 24, 25, 26, 27, 28, 29, 30, 31, 32, 33, 34, 35, 36, 37, 38] (by decide +kernel) (by decide +kernel)
set_option maxRecDepth 20000 in
theorem gX8_isMarked_X8_goes : GoodIn wsX8_isMarked (wsV RX8 106 RX8 yX8_goes wsX8_goes) := goodIn_app (goodIn_of _ (by decide +kernel)) ggX8_isMarked_X8_goes
theorem dX8_isMarked_0 : decode cX8_isMarked 0 = .ok (.aload_n 0, 1) := by decide +kernel
theorem dX8_isMarked_1 : decode cX8_isMarked 1 = .ok (.aload_n 0, 1) := by decide +kernel
theorem dX8_isMarked_2 : decode cX8_isMarked 2 = .ok (.iload_n 1, 1) := by decide +kernel
theorem dX8_isMarked_3 : decode cX8_isMarked 3 = .ok (.invokevirtual 151, 3) := by decide +kernel
theorem dX8_isMarked_6 : decode cX8_isMarked 6 = .ok (.iconst 1, 1) := by decide +kernel
theorem dX8_isMarked_7 : decode cX8_isMarked 7 = .ok (.iconst 1, 1) := by decide +kernel
theorem dX8_isMarked_8 : decode cX8_isMarked 8 = .ok (.invokevirtual 106, 3) := by decide +kernel
theorem dX8_isMarked_11 : decode cX8_isMarked 11 = .ok (.ifCond .eq 16, 3) := by decide +kernel
theorem dX8_isMarked_14 : decode cX8_isMarked 14 = .ok (.aload_n 0, 1) := by decide +kernel
theorem dX8_isMarked_15 : decode cX8_isMarked 15 = .ok (.getfield 63, 3) := by decide +kernel
theorem dX8_isMarked_18 : decode cX8_isMarked 18 = .ok (.iload_n 1, 1) := by decide +kernel
theorem dX8_isMarked_19 : decode cX8_isMarked 19 = .ok (.baload, 1) := by decide +kernel
theorem dX8_isMarked_20 : decode cX8_isMarked 20 = .ok (.ifCond .eq 7, 3) := by decide +kernel
theorem dX8_isMarked_23 : decode cX8_isMarked 23 = .ok (.iconst 1, 1) := by decide +kernel
theorem dX8_isMarked_24 : decode cX8_isMarked 24 = .ok (.goto 4, 3) := by decide +kernel
theorem dX8_isMarked_27 : decode cX8_isMarked 27 = .ok (.iconst 0, 1) := by decide +kernel
theorem dX8_isMarked_28 : decode cX8_isMarked 28 = .ok (.ireturn, 1) := by decide +kernel
set_option maxRecDepth 20000 in
theorem ggX8_wants_X8_isPacket : GoodIn wsX8_wants wsX8_isPacket := goodIn_r _ [6, 7, 20, 21, 22, 23, 24, 25, 26, 27, 28, 29, 30, 31, 32, 33, 34, 35, 36, 37, 38, 39, 40, 41, 42, 43, 44, 45] (by decide +kernel) (by decide +kernel)
set_option maxRecDepth 20000 in
theorem gX8_wants_X8_isPacket : GoodIn wsX8_wants (wsV RX8 151 RX8 yX8_isPacket wsX8_isPacket) := goodIn_app (goodIn_of _ (by decide +kernel)) ggX8_wants_X8_isPacket
set_option maxRecDepth 20000 in
theorem ggX8_wants_X8_goes : GoodIn wsX8_wants wsX8_goes := goodIn_r _ [11, 12, 20, 21, 22, 23, 24, 25, 26, 27, 28, 29, 30, 31, 32, 33, 34, 35, 36, 37, 38, 39, 40, 41, 42, 43, 44, 45] (by decide +kernel) (by decide +kernel)
set_option maxRecDepth 20000 in
theorem gX8_wants_X8_goes : GoodIn wsX8_wants (wsV RX8 106 RX8 yX8_goes wsX8_goes) := goodIn_app (goodIn_of _ (by decide +kernel)) ggX8_wants_X8_goes
set_option maxRecDepth 20000 in
theorem ggX8_wants_X8_wanted : GoodIn wsX8_wants wsX8_wanted := goodIn_r _ [16, 17, 18, 19, 20, 21, 22, 23, 24, 25, 26, 27, 28, 29, 30, 31, 32, 33, 34, 35, 36, 37, 38, 39, 40, 41, 42, 43, 44, 45] (by decide +kernel) (by decide +kernel)
set_option maxRecDepth 20000 in
theorem gX8_wants_X8_wanted : GoodIn wsX8_wants (wsV RX8 121 RX8 yX8_wanted wsX8_wanted) := goodIn_app (goodIn_of _ (by decide +kernel)) ggX8_wants_X8_wanted
theorem dX8_wants_0 : decode cX8_wants 0 = .ok (.aload_n 0, 1) := by decide +kernel
theorem dX8_wants_1 : decode cX8_wants 1 = .ok (.aload_n 0, 1) := by decide +kernel
theorem dX8_wants_2 : decode cX8_wants 2 = .ok (.iload_n 1, 1) := by decide +kernel
theorem dX8_wants_3 : decode cX8_wants 3 = .ok (.invokevirtual 151, 3) := by decide +kernel
theorem dX8_wants_6 : decode cX8_wants 6 = .ok (.iconst 1, 1) := by decide +kernel
theorem dX8_wants_7 : decode cX8_wants 7 = .ok (.iconst 1, 1) := by decide +kernel
theorem dX8_wants_8 : decode cX8_wants 8 = .ok (.invokevirtual 106, 3) := by decide +kernel
theorem dX8_wants_11 : decode cX8_wants 11 = .ok (.ifCond .ne 5, 3) := by decide +kernel
theorem dX8_wants_14 : decode cX8_wants 14 = .ok (.iconst 0, 1) := by decide +kernel
theorem dX8_wants_15 : decode cX8_wants 15 = .ok (.ireturn, 1) := by decide +kernel
theorem dX8_wants_16 : decode cX8_wants 16 = .ok (.aload_n 0, 1) := by decide +kernel
theorem dX8_wants_17 : decode cX8_wants 17 = .ok (.getfield 57, 3) := by decide +kernel
theorem dX8_wants_20 : decode cX8_wants 20 = .ok (.iload_n 1, 1) := by decide +kernel
theorem dX8_wants_21 : decode cX8_wants 21 = .ok (.iaload, 1) := by decide +kernel
theorem dX8_wants_22 : decode cX8_wants 22 = .ok (.ifCond .ge 7, 3) := by decide +kernel
theorem dX8_wants_25 : decode cX8_wants 25 = .ok (.iconst (-1), 1) := by decide +kernel
theorem dX8_wants_26 : decode cX8_wants 26 = .ok (.goto 14, 3) := by decide +kernel
theorem dX8_wants_29 : decode cX8_wants 29 = .ok (.aload_n 0, 1) := by decide +kernel
theorem dX8_wants_30 : decode cX8_wants 30 = .ok (.iload_n 1, 1) := by decide +kernel
theorem dX8_wants_31 : decode cX8_wants 31 = .ok (.aload_n 0, 1) := by decide +kernel
theorem dX8_wants_32 : decode cX8_wants 32 = .ok (.getfield 57, 3) := by decide +kernel
theorem dX8_wants_35 : decode cX8_wants 35 = .ok (.iload_n 1, 1) := by decide +kernel
theorem dX8_wants_36 : decode cX8_wants 36 = .ok (.iaload, 1) := by decide +kernel
theorem dX8_wants_37 : decode cX8_wants 37 = .ok (.invokevirtual 121, 3) := by decide +kernel
theorem dX8_wants_40 : decode cX8_wants 40 = .ok (.ireturn, 1) := by decide +kernel
set_option maxRecDepth 20000 in
theorem ggX8_waitsFor_X8_wanted : GoodIn wsX8_waitsFor wsX8_wanted := goodIn_r _ [8, 9, 10, 11, 20, 21, 22, 23, 24, 25, 26, 27, 28, 29, 30, 31, 32, 33, 34, 35, 36, 37, 38, 39, 40, 41, 42, 43, 44, 45] (by decide +kernel) (by decide +kernel)
set_option maxRecDepth 20000 in
theorem gX8_waitsFor_X8_wanted : GoodIn wsX8_waitsFor (wsV RX8 121 RX8 yX8_wanted wsX8_wanted) := goodIn_app (goodIn_of _ (by decide +kernel)) ggX8_waitsFor_X8_wanted
set_option maxRecDepth 20000 in
theorem ggX8_waitsFor_X8_neighbour : GoodIn wsX8_waitsFor wsX8_neighbour := goodIn_r _ [15, 10, 16, 20, 21, 22, 23, 24, 25, 26, 27, 28, 29, 30, 31, 32, 33, 34, 35, 36, 37, 38, 39, 40, 41, 42, 43, 44, 45] (by decide +kernel) (by decide +kernel)
set_option maxRecDepth 20000 in
theorem gX8_waitsFor_X8_neighbour : GoodIn wsX8_waitsFor (wsV RX8 93 RX8 yX8_neighbour wsX8_neighbour) := goodIn_app (goodIn_of _ (by decide +kernel)) ggX8_waitsFor_X8_neighbour
set_option maxRecDepth 20000 in
theorem ggX8_waitsFor_X8_bufferOf : GoodIn wsX8_waitsFor wsX8_bufferOf := goodIn_r _ [19] (by decide +kernel) (by decide +kernel)
set_option maxRecDepth 20000 in
theorem gX8_waitsFor_X8_bufferOf : GoodIn wsX8_waitsFor (va_wsS RX8 110 yX8_bufferOf wsX8_bufferOf) := goodIn_app (goodIn_of _ (by decide +kernel)) ggX8_waitsFor_X8_bufferOf
theorem dX8_waitsFor_0 : decode cX8_waitsFor 0 = .ok (.aload_n 0, 1) := by decide +kernel
theorem dX8_waitsFor_1 : decode cX8_waitsFor 1 = .ok (.getfield 23, 3) := by decide +kernel
theorem dX8_waitsFor_4 : decode cX8_waitsFor 4 = .ok (.iload_n 1, 1) := by decide +kernel
theorem dX8_waitsFor_5 : decode cX8_waitsFor 5 = .ok (.iaload, 1) := by decide +kernel
theorem dX8_waitsFor_6 : decode cX8_waitsFor 6 = .ok (.ifCond .ne 5, 3) := by decide +kernel
theorem dX8_waitsFor_9 : decode cX8_waitsFor 9 = .ok (.iconst (-1), 1) := by decide +kernel
theorem dX8_waitsFor_10 : decode cX8_waitsFor 10 = .ok (.ireturn, 1) := by decide +kernel
theorem dX8_waitsFor_11 : decode cX8_waitsFor 11 = .ok (.iload_n 1, 1) := by decide +kernel
theorem dX8_waitsFor_12 : decode cX8_waitsFor 12 = .ok (.bipush 10, 2) := by decide +kernel
theorem dX8_waitsFor_14 : decode cX8_waitsFor 14 = .ok (.idiv, 1) := by decide +kernel
theorem dX8_waitsFor_15 : decode cX8_waitsFor 15 = .ok (.istore_n 2, 1) := by decide +kernel
theorem dX8_waitsFor_16 : decode cX8_waitsFor 16 = .ok (.aload_n 0, 1) := by decide +kernel
theorem dX8_waitsFor_17 : decode cX8_waitsFor 17 = .ok (.aload_n 0, 1) := by decide +kernel
theorem dX8_waitsFor_18 : decode cX8_waitsFor 18 = .ok (.getfield 19, 3) := by decide +kernel
theorem dX8_waitsFor_21 : decode cX8_waitsFor 21 = .ok (.iconst 3, 1) := by decide +kernel
theorem dX8_waitsFor_22 : decode cX8_waitsFor 22 = .ok (.iload_n 1, 1) := by decide +kernel
theorem dX8_waitsFor_23 : decode cX8_waitsFor 23 = .ok (.imul, 1) := by decide +kernel
theorem dX8_waitsFor_24 : decode cX8_waitsFor 24 = .ok (.iaload, 1) := by decide +kernel
theorem dX8_waitsFor_25 : decode cX8_waitsFor 25 = .ok (.iload_n 2, 1) := by decide +kernel
theorem dX8_waitsFor_26 : decode cX8_waitsFor 26 = .ok (.invokevirtual 121, 3) := by decide +kernel
theorem dX8_waitsFor_29 : decode cX8_waitsFor 29 = .ok (.istore_n 3, 1) := by decide +kernel
theorem dX8_waitsFor_30 : decode cX8_waitsFor 30 = .ok (.iload_n 3, 1) := by decide +kernel
theorem dX8_waitsFor_31 : decode cX8_waitsFor 31 = .ok (.iconst 4, 1) := by decide +kernel
theorem dX8_waitsFor_32 : decode cX8_waitsFor 32 = .ok (.if_icmp .ne 5, 3) := by decide +kernel
theorem dX8_waitsFor_35 : decode cX8_waitsFor 35 = .ok (.iconst (-1), 1) := by decide +kernel
theorem dX8_waitsFor_36 : decode cX8_waitsFor 36 = .ok (.ireturn, 1) := by decide +kernel
theorem dX8_waitsFor_37 : decode cX8_waitsFor 37 = .ok (.aload_n 0, 1) := by decide +kernel
theorem dX8_waitsFor_38 : decode cX8_waitsFor 38 = .ok (.iload_n 2, 1) := by decide +kernel
theorem dX8_waitsFor_39 : decode cX8_waitsFor 39 = .ok (.iload_n 3, 1) := by decide +kernel
theorem dX8_waitsFor_40 : decode cX8_waitsFor 40 = .ok (.invokevirtual 93, 3) := by decide +kernel
theorem dX8_waitsFor_43 : decode cX8_waitsFor 43 = .ok (.iload_n 3, 1) := by decide +kernel
theorem dX8_waitsFor_44 : decode cX8_waitsFor 44 = .ok (.iload_n 1, 1) := by decide +kernel
theorem dX8_waitsFor_45 : decode cX8_waitsFor 45 = .ok (.iconst 2, 1) := by decide +kernel
theorem dX8_waitsFor_46 : decode cX8_waitsFor 46 = .ok (.irem, 1) := by decide +kernel
theorem dX8_waitsFor_47 : decode cX8_waitsFor 47 = .ok (.invokestatic 110, 3) := by decide +kernel
theorem dX8_waitsFor_50 : decode cX8_waitsFor 50 = .ok (.istore 4, 2) := by decide +kernel
theorem dX8_waitsFor_52 : decode cX8_waitsFor 52 = .ok (.aload_n 0, 1) := by decide +kernel
theorem dX8_waitsFor_53 : decode cX8_waitsFor 53 = .ok (.getfield 23, 3) := by decide +kernel
theorem dX8_waitsFor_56 : decode cX8_waitsFor 56 = .ok (.iload 4, 2) := by decide +kernel
theorem dX8_waitsFor_58 : decode cX8_waitsFor 58 = .ok (.iaload, 1) := by decide +kernel
theorem dX8_waitsFor_59 : decode cX8_waitsFor 59 = .ok (.aload_n 0, 1) := by decide +kernel
theorem dX8_waitsFor_60 : decode cX8_waitsFor 60 = .ok (.getfield 16, 3) := by decide +kernel
theorem dX8_waitsFor_63 : decode cX8_waitsFor 63 = .ok (.if_icmp .ne 8, 3) := by decide +kernel
theorem dX8_waitsFor_66 : decode cX8_waitsFor 66 = .ok (.iload 4, 2) := by decide +kernel
theorem dX8_waitsFor_68 : decode cX8_waitsFor 68 = .ok (.goto 4, 3) := by decide +kernel
theorem dX8_waitsFor_71 : decode cX8_waitsFor 71 = .ok (.iconst (-1), 1) := by decide +kernel
theorem dX8_waitsFor_72 : decode cX8_waitsFor 72 = .ok (.ireturn, 1) := by decide +kernel
set_option maxRecDepth 20000 in
theorem ggX8_circle_X8_waitsFor : GoodIn wsX8_circle wsX8_waitsFor := goodIn_r _ [8, 9, 10, 11, 12, 13, 14, 7, 15, 16, 2, 17, 18, 19, 20, 21, 3, 22, 23, 24, 25, 26, 27, 28, 29, 30, 31, 32, 33, 34, 35, 36, 37, 38, 39, 40, 41, 42, 43, 44, 45, 46, 47, 48, 49, 50] (by decide +kernel) (by decide +kernel)
set_option maxRecDepth 20000 in
theorem gX8_circle_X8_waitsFor : GoodIn wsX8_circle (wsV RX8 154 RX8 yX8_waitsFor wsX8_waitsFor) := goodIn_app (goodIn_of _ (by decide +kernel)) ggX8_circle_X8_waitsFor
theorem dX8_circle_0 : decode cX8_circle 0 = .ok (.aload_n 0, 1) := by decide +kernel
theorem dX8_circle_1 : decode cX8_circle 1 = .ok (.iconst 0, 1) := by decide +kernel
theorem dX8_circle_2 : decode cX8_circle 2 = .ok (.putfield 79, 3) := by decide +kernel
theorem dX8_circle_5 : decode cX8_circle 5 = .ok (.aload_n 0, 1) := by decide +kernel
theorem dX8_circle_6 : decode cX8_circle 6 = .ok (.getfield 7, 3) := by decide +kernel
theorem dX8_circle_9 : decode cX8_circle 9 = .ok (.aload_n 0, 1) := by decide +kernel
theorem dX8_circle_10 : decode cX8_circle 10 = .ok (.getfield 13, 3) := by decide +kernel
theorem dX8_circle_13 : decode cX8_circle 13 = .ok (.imul, 1) := by decide +kernel
theorem dX8_circle_14 : decode cX8_circle 14 = .ok (.bipush 10, 2) := by decide +kernel
theorem dX8_circle_16 : decode cX8_circle 16 = .ok (.imul, 1) := by decide +kernel
theorem dX8_circle_17 : decode cX8_circle 17 = .ok (.istore_n 1, 1) := by decide +kernel
theorem dX8_circle_18 : decode cX8_circle 18 = .ok (.iconst 0, 1) := by decide +kernel
theorem dX8_circle_19 : decode cX8_circle 19 = .ok (.istore_n 2, 1) := by decide +kernel
theorem dX8_circle_20 : decode cX8_circle 20 = .ok (.iconst 0, 1) := by decide +kernel
theorem dX8_circle_21 : decode cX8_circle 21 = .ok (.istore_n 3, 1) := by decide +kernel
theorem dX8_circle_22 : decode cX8_circle 22 = .ok (.iload_n 3, 1) := by decide +kernel
theorem dX8_circle_23 : decode cX8_circle 23 = .ok (.iload_n 1, 1) := by decide +kernel
theorem dX8_circle_24 : decode cX8_circle 24 = .ok (.if_icmp .ge 64, 3) := by decide +kernel
theorem dX8_circle_27 : decode cX8_circle 27 = .ok (.aload_n 0, 1) := by decide +kernel
theorem dX8_circle_28 : decode cX8_circle 28 = .ok (.iload_n 3, 1) := by decide +kernel
theorem dX8_circle_29 : decode cX8_circle 29 = .ok (.invokevirtual 154, 3) := by decide +kernel
theorem dX8_circle_32 : decode cX8_circle 32 = .ok (.istore 4, 2) := by decide +kernel
theorem dX8_circle_34 : decode cX8_circle 34 = .ok (.iconst 0, 1) := by decide +kernel
theorem dX8_circle_35 : decode cX8_circle 35 = .ok (.istore 5, 2) := by decide +kernel
theorem dX8_circle_37 : decode cX8_circle 37 = .ok (.iload 5, 2) := by decide +kernel
theorem dX8_circle_39 : decode cX8_circle 39 = .ok (.iload_n 1, 1) := by decide +kernel
theorem dX8_circle_40 : decode cX8_circle 40 = .ok (.if_icmp .ge 28, 3) := by decide +kernel
theorem dX8_circle_43 : decode cX8_circle 43 = .ok (.iload 4, 2) := by decide +kernel
theorem dX8_circle_45 : decode cX8_circle 45 = .ok (.ifCond .lt 23, 3) := by decide +kernel
theorem dX8_circle_48 : decode cX8_circle 48 = .ok (.iload 4, 2) := by decide +kernel
theorem dX8_circle_50 : decode cX8_circle 50 = .ok (.iload_n 3, 1) := by decide +kernel
theorem dX8_circle_51 : decode cX8_circle 51 = .ok (.if_icmp .eq 17, 3) := by decide +kernel
theorem dX8_circle_54 : decode cX8_circle 54 = .ok (.aload_n 0, 1) := by decide +kernel
theorem dX8_circle_55 : decode cX8_circle 55 = .ok (.iload 4, 2) := by decide +kernel
theorem dX8_circle_57 : decode cX8_circle 57 = .ok (.invokevirtual 154, 3) := by decide +kernel
theorem dX8_circle_60 : decode cX8_circle 60 = .ok (.istore 4, 2) := by decide +kernel
theorem dX8_circle_62 : decode cX8_circle 62 = .ok (.iinc 5 1, 3) := by decide +kernel
theorem dX8_circle_65 : decode cX8_circle 65 = .ok (.goto (-28), 3) := by decide +kernel
theorem dX8_circle_68 : decode cX8_circle 68 = .ok (.iload_n 2, 1) := by decide +kernel
theorem dX8_circle_69 : decode cX8_circle 69 = .ok (.iload 4, 2) := by decide +kernel
theorem dX8_circle_71 : decode cX8_circle 71 = .ok (.iload_n 3, 1) := by decide +kernel
theorem dX8_circle_72 : decode cX8_circle 72 = .ok (.if_icmp .ne 7, 3) := by decide +kernel
theorem dX8_circle_75 : decode cX8_circle 75 = .ok (.iconst 1, 1) := by decide +kernel
theorem dX8_circle_76 : decode cX8_circle 76 = .ok (.goto 4, 3) := by decide +kernel
theorem dX8_circle_79 : decode cX8_circle 79 = .ok (.iconst 0, 1) := by decide +kernel
theorem dX8_circle_80 : decode cX8_circle 80 = .ok (.iadd, 1) := by decide +kernel
theorem dX8_circle_81 : decode cX8_circle 81 = .ok (.istore_n 2, 1) := by decide +kernel
theorem dX8_circle_82 : decode cX8_circle 82 = .ok (.iinc 3 1, 3) := by decide +kernel
theorem dX8_circle_85 : decode cX8_circle 85 = .ok (.goto (-63), 3) := by decide +kernel
theorem dX8_circle_88 : decode cX8_circle 88 = .ok (.iload_n 2, 1) := by decide +kernel
theorem dX8_circle_89 : decode cX8_circle 89 = .ok (.ireturn, 1) := by decide +kernel
set_option maxRecDepth 20000 in
theorem ggX8_lays_X8_wanted : GoodIn wsX8_lays wsX8_wanted := goodIn_r _ [11, 12, 2, 13, 21, 22, 23, 24, 25, 26, 27, 28, 29, 30, 31, 32, 33, 34, 35, 36, 37, 38, 39, 40, 41, 42, 43, 44, 45, 46] (by decide +kernel) (by decide +kernel)
set_option maxRecDepth 20000 in
theorem gX8_lays_X8_wanted : GoodIn wsX8_lays (wsV RX8 121 RX8 yX8_wanted wsX8_wanted) := goodIn_app (goodIn_of _ (by decide +kernel)) ggX8_lays_X8_wanted
set_option maxRecDepth 20000 in
theorem ggX8_lays_X8_neighbour : GoodIn wsX8_lays wsX8_neighbour := goodIn_r _ [17, 2, 3, 21, 22, 23, 24, 25, 26, 27, 28, 29, 30, 31, 32, 33, 34, 35, 36, 37, 38, 39, 40, 41, 42, 43, 44, 45, 46] (by decide +kernel) (by decide +kernel)
set_option maxRecDepth 20000 in
theorem gX8_lays_X8_neighbour : GoodIn wsX8_lays (wsV RX8 93 RX8 yX8_neighbour wsX8_neighbour) := goodIn_app (goodIn_of _ (by decide +kernel)) ggX8_lays_X8_neighbour
set_option maxRecDepth 20000 in
theorem ggX8_lays_X8_bufferOf : GoodIn wsX8_lays wsX8_bufferOf := goodIn_r _ [20] (by decide +kernel) (by decide +kernel)
set_option maxRecDepth 20000 in
theorem gX8_lays_X8_bufferOf : GoodIn wsX8_lays (va_wsS RX8 110 yX8_bufferOf wsX8_bufferOf) := goodIn_app (goodIn_of _ (by decide +kernel)) ggX8_lays_X8_bufferOf
theorem dX8_lays_0 : decode cX8_lays 0 = .ok (.iconst 0, 1) := by decide +kernel
theorem dX8_lays_1 : decode cX8_lays 1 = .ok (.istore_n 1, 1) := by decide +kernel
theorem dX8_lays_2 : decode cX8_lays 2 = .ok (.iload_n 1, 1) := by decide +kernel
theorem dX8_lays_3 : decode cX8_lays 3 = .ok (.sipush 25600, 3) := by decide +kernel
theorem dX8_lays_6 : decode cX8_lays 6 = .ok (.if_icmp .ge 16, 3) := by decide +kernel
theorem dX8_lays_9 : decode cX8_lays 9 = .ok (.aload_n 0, 1) := by decide +kernel
theorem dX8_lays_10 : decode cX8_lays 10 = .ok (.getfield 69, 3) := by decide +kernel
theorem dX8_lays_13 : decode cX8_lays 13 = .ok (.iload_n 1, 1) := by decide +kernel
theorem dX8_lays_14 : decode cX8_lays 14 = .ok (.iconst 0, 1) := by decide +kernel
theorem dX8_lays_15 : decode cX8_lays 15 = .ok (.bastore, 1) := by decide +kernel
theorem dX8_lays_16 : decode cX8_lays 16 = .ok (.iinc 1 1, 3) := by decide +kernel
theorem dX8_lays_19 : decode cX8_lays 19 = .ok (.goto (-17), 3) := by decide +kernel
theorem dX8_lays_22 : decode cX8_lays 22 = .ok (.iconst 0, 1) := by decide +kernel
theorem dX8_lays_23 : decode cX8_lays 23 = .ok (.istore_n 1, 1) := by decide +kernel
theorem dX8_lays_24 : decode cX8_lays 24 = .ok (.iload_n 1, 1) := by decide +kernel
theorem dX8_lays_25 : decode cX8_lays 25 = .ok (.aload_n 0, 1) := by decide +kernel
theorem dX8_lays_26 : decode cX8_lays 26 = .ok (.getfield 7, 3) := by decide +kernel
theorem dX8_lays_29 : decode cX8_lays 29 = .ok (.aload_n 0, 1) := by decide +kernel
theorem dX8_lays_30 : decode cX8_lays 30 = .ok (.getfield 13, 3) := by decide +kernel
theorem dX8_lays_33 : decode cX8_lays 33 = .ok (.imul, 1) := by decide +kernel
theorem dX8_lays_34 : decode cX8_lays 34 = .ok (.bipush 10, 2) := by decide +kernel
theorem dX8_lays_36 : decode cX8_lays 36 = .ok (.imul, 1) := by decide +kernel
theorem dX8_lays_37 : decode cX8_lays 37 = .ok (.if_icmp .ge 116, 3) := by decide +kernel
theorem dX8_lays_40 : decode cX8_lays 40 = .ok (.iconst 0, 1) := by decide +kernel
theorem dX8_lays_41 : decode cX8_lays 41 = .ok (.istore_n 2, 1) := by decide +kernel
theorem dX8_lays_42 : decode cX8_lays 42 = .ok (.iload_n 2, 1) := by decide +kernel
theorem dX8_lays_43 : decode cX8_lays 43 = .ok (.aload_n 0, 1) := by decide +kernel
theorem dX8_lays_44 : decode cX8_lays 44 = .ok (.getfield 23, 3) := by decide +kernel
theorem dX8_lays_47 : decode cX8_lays 47 = .ok (.iload_n 1, 1) := by decide +kernel
theorem dX8_lays_48 : decode cX8_lays 48 = .ok (.iaload, 1) := by decide +kernel
theorem dX8_lays_49 : decode cX8_lays 49 = .ok (.if_icmp .ge 98, 3) := by decide +kernel
theorem dX8_lays_52 : decode cX8_lays 52 = .ok (.aload_n 0, 1) := by decide +kernel
theorem dX8_lays_53 : decode cX8_lays 53 = .ok (.getfield 19, 3) := by decide +kernel
theorem dX8_lays_56 : decode cX8_lays 56 = .ok (.iconst 3, 1) := by decide +kernel
theorem dX8_lays_57 : decode cX8_lays 57 = .ok (.iload_n 1, 1) := by decide +kernel
theorem dX8_lays_58 : decode cX8_lays 58 = .ok (.imul, 1) := by decide +kernel
theorem dX8_lays_59 : decode cX8_lays 59 = .ok (.iload_n 2, 1) := by decide +kernel
theorem dX8_lays_60 : decode cX8_lays 60 = .ok (.iadd, 1) := by decide +kernel
theorem dX8_lays_61 : decode cX8_lays 61 = .ok (.iaload, 1) := by decide +kernel
theorem dX8_lays_62 : decode cX8_lays 62 = .ok (.istore_n 3, 1) := by decide +kernel
theorem dX8_lays_63 : decode cX8_lays 63 = .ok (.iload_n 1, 1) := by decide +kernel
theorem dX8_lays_64 : decode cX8_lays 64 = .ok (.istore 4, 2) := by decide +kernel
theorem dX8_lays_66 : decode cX8_lays 66 = .ok (.aload_n 0, 1) := by decide +kernel
theorem dX8_lays_67 : decode cX8_lays 67 = .ok (.iload_n 3, 1) := by decide +kernel
theorem dX8_lays_68 : decode cX8_lays 68 = .ok (.iload_n 1, 1) := by decide +kernel
theorem dX8_lays_69 : decode cX8_lays 69 = .ok (.bipush 10, 2) := by decide +kernel
theorem dX8_lays_71 : decode cX8_lays 71 = .ok (.idiv, 1) := by decide +kernel
theorem dX8_lays_72 : decode cX8_lays 72 = .ok (.invokevirtual 121, 3) := by decide +kernel
theorem dX8_lays_75 : decode cX8_lays 75 = .ok (.istore 5, 2) := by decide +kernel
theorem dX8_lays_77 : decode cX8_lays 77 = .ok (.iload 5, 2) := by decide +kernel
theorem dX8_lays_79 : decode cX8_lays 79 = .ok (.iconst 4, 1) := by decide +kernel
theorem dX8_lays_80 : decode cX8_lays 80 = .ok (.if_icmp .ge 61, 3) := by decide +kernel
theorem dX8_lays_83 : decode cX8_lays 83 = .ok (.aload_n 0, 1) := by decide +kernel
theorem dX8_lays_84 : decode cX8_lays 84 = .ok (.iload 4, 2) := by decide +kernel
theorem dX8_lays_86 : decode cX8_lays 86 = .ok (.bipush 10, 2) := by decide +kernel
theorem dX8_lays_88 : decode cX8_lays 88 = .ok (.idiv, 1) := by decide +kernel
theorem dX8_lays_89 : decode cX8_lays 89 = .ok (.iload 5, 2) := by decide +kernel
theorem dX8_lays_91 : decode cX8_lays 91 = .ok (.invokevirtual 93, 3) := by decide +kernel
theorem dX8_lays_94 : decode cX8_lays 94 = .ok (.iload 5, 2) := by decide +kernel
theorem dX8_lays_96 : decode cX8_lays 96 = .ok (.aload_n 0, 1) := by decide +kernel
theorem dX8_lays_97 : decode cX8_lays 97 = .ok (.getfield 51, 3) := by decide +kernel
theorem dX8_lays_100 : decode cX8_lays 100 = .ok (.iload_n 3, 1) := by decide +kernel
theorem dX8_lays_101 : decode cX8_lays 101 = .ok (.iaload, 1) := by decide +kernel
theorem dX8_lays_102 : decode cX8_lays 102 = .ok (.invokestatic 110, 3) := by decide +kernel
theorem dX8_lays_105 : decode cX8_lays 105 = .ok (.istore 6, 2) := by decide +kernel
theorem dX8_lays_107 : decode cX8_lays 107 = .ok (.aload_n 0, 1) := by decide +kernel
theorem dX8_lays_108 : decode cX8_lays 108 = .ok (.getfield 69, 3) := by decide +kernel
theorem dX8_lays_111 : decode cX8_lays 111 = .ok (.sipush 160, 3) := by decide +kernel
theorem dX8_lays_114 : decode cX8_lays 114 = .ok (.iload 4, 2) := by decide +kernel
theorem dX8_lays_116 : decode cX8_lays 116 = .ok (.imul, 1) := by decide +kernel
theorem dX8_lays_117 : decode cX8_lays 117 = .ok (.iload 6, 2) := by decide +kernel
theorem dX8_lays_119 : decode cX8_lays 119 = .ok (.iadd, 1) := by decide +kernel
theorem dX8_lays_120 : decode cX8_lays 120 = .ok (.iconst 1, 1) := by decide +kernel
theorem dX8_lays_121 : decode cX8_lays 121 = .ok (.bastore, 1) := by decide +kernel
theorem dX8_lays_122 : decode cX8_lays 122 = .ok (.iload 6, 2) := by decide +kernel
theorem dX8_lays_124 : decode cX8_lays 124 = .ok (.istore 4, 2) := by decide +kernel
theorem dX8_lays_126 : decode cX8_lays 126 = .ok (.aload_n 0, 1) := by decide +kernel
theorem dX8_lays_127 : decode cX8_lays 127 = .ok (.iload_n 3, 1) := by decide +kernel
theorem dX8_lays_128 : decode cX8_lays 128 = .ok (.iload 4, 2) := by decide +kernel
theorem dX8_lays_130 : decode cX8_lays 130 = .ok (.bipush 10, 2) := by decide +kernel
theorem dX8_lays_132 : decode cX8_lays 132 = .ok (.idiv, 1) := by decide +kernel
theorem dX8_lays_133 : decode cX8_lays 133 = .ok (.invokevirtual 121, 3) := by decide +kernel
theorem dX8_lays_136 : decode cX8_lays 136 = .ok (.istore 5, 2) := by decide +kernel
theorem dX8_lays_138 : decode cX8_lays 138 = .ok (.goto (-61), 3) := by decide +kernel
theorem dX8_lays_141 : decode cX8_lays 141 = .ok (.iinc 2 1, 3) := by decide +kernel
theorem dX8_lays_144 : decode cX8_lays 144 = .ok (.goto (-102), 3) := by decide +kernel
theorem dX8_lays_147 : decode cX8_lays 147 = .ok (.iinc 1 1, 3) := by decide +kernel
theorem dX8_lays_150 : decode cX8_lays 150 = .ok (.goto (-126), 3) := by decide +kernel
theorem dX8_lays_153 : decode cX8_lays 153 = .ok (.return_, 1) := by decide +kernel
set_option maxRecDepth 20000 in
theorem ggX8_mayCircle_X8_lays : GoodIn wsX8_mayCircle wsX8_lays := goodIn_r _ [10, 5, 2, 3, 11, 12, 13, 14, 15, 16, 9, 17, 18, 19, 20, 21, 22, 23, 24, 25, 26, 27, 28, 29, 30, 31, 32, 33, 34, 35, 36, 37, 38, 39, 40, 41, 42, 43, 44, 45, 46, 47, 48, 49, 50, 51, 52] (by decide +kernel) (by decide +kernel)
set_option maxRecDepth 20000 in
theorem gX8_mayCircle_X8_lays : GoodIn wsX8_mayCircle (wsV RX8 157 RX8 yX8_lays wsX8_lays) := goodIn_app (goodIn_of _ (by decide +kernel)) ggX8_mayCircle_X8_lays
theorem dX8_mayCircle_0 : decode cX8_mayCircle 0 = .ok (.aload_n 0, 1) := by decide +kernel
theorem dX8_mayCircle_1 : decode cX8_mayCircle 1 = .ok (.iconst 0, 1) := by decide +kernel
theorem dX8_mayCircle_2 : decode cX8_mayCircle 2 = .ok (.putfield 79, 3) := by decide +kernel
theorem dX8_mayCircle_5 : decode cX8_mayCircle 5 = .ok (.aload_n 0, 1) := by decide +kernel
theorem dX8_mayCircle_6 : decode cX8_mayCircle 6 = .ok (.invokevirtual 157, 3) := by decide +kernel
theorem dX8_mayCircle_9 : decode cX8_mayCircle 9 = .ok (.aload_n 0, 1) := by decide +kernel
theorem dX8_mayCircle_10 : decode cX8_mayCircle 10 = .ok (.getfield 7, 3) := by decide +kernel
theorem dX8_mayCircle_13 : decode cX8_mayCircle 13 = .ok (.aload_n 0, 1) := by decide +kernel
theorem dX8_mayCircle_14 : decode cX8_mayCircle 14 = .ok (.getfield 13, 3) := by decide +kernel
theorem dX8_mayCircle_17 : decode cX8_mayCircle 17 = .ok (.imul, 1) := by decide +kernel
theorem dX8_mayCircle_18 : decode cX8_mayCircle 18 = .ok (.bipush 10, 2) := by decide +kernel
theorem dX8_mayCircle_20 : decode cX8_mayCircle 20 = .ok (.imul, 1) := by decide +kernel
theorem dX8_mayCircle_21 : decode cX8_mayCircle 21 = .ok (.istore_n 1, 1) := by decide +kernel
theorem dX8_mayCircle_22 : decode cX8_mayCircle 22 = .ok (.iconst 0, 1) := by decide +kernel
theorem dX8_mayCircle_23 : decode cX8_mayCircle 23 = .ok (.istore_n 2, 1) := by decide +kernel
theorem dX8_mayCircle_24 : decode cX8_mayCircle 24 = .ok (.iload_n 2, 1) := by decide +kernel
theorem dX8_mayCircle_25 : decode cX8_mayCircle 25 = .ok (.iload_n 1, 1) := by decide +kernel
theorem dX8_mayCircle_26 : decode cX8_mayCircle 26 = .ok (.if_icmp .ge 16, 3) := by decide +kernel
theorem dX8_mayCircle_29 : decode cX8_mayCircle 29 = .ok (.aload_n 0, 1) := by decide +kernel
theorem dX8_mayCircle_30 : decode cX8_mayCircle 30 = .ok (.getfield 72, 3) := by decide +kernel
theorem dX8_mayCircle_33 : decode cX8_mayCircle 33 = .ok (.iload_n 2, 1) := by decide +kernel
theorem dX8_mayCircle_34 : decode cX8_mayCircle 34 = .ok (.iconst 0, 1) := by decide +kernel
theorem dX8_mayCircle_35 : decode cX8_mayCircle 35 = .ok (.bastore, 1) := by decide +kernel
theorem dX8_mayCircle_36 : decode cX8_mayCircle 36 = .ok (.iinc 2 1, 3) := by decide +kernel
theorem dX8_mayCircle_39 : decode cX8_mayCircle 39 = .ok (.goto (-15), 3) := by decide +kernel
theorem dX8_mayCircle_42 : decode cX8_mayCircle 42 = .ok (.iload_n 1, 1) := by decide +kernel
theorem dX8_mayCircle_43 : decode cX8_mayCircle 43 = .ok (.istore_n 2, 1) := by decide +kernel
theorem dX8_mayCircle_44 : decode cX8_mayCircle 44 = .ok (.iconst 1, 1) := by decide +kernel
theorem dX8_mayCircle_45 : decode cX8_mayCircle 45 = .ok (.istore_n 3, 1) := by decide +kernel
theorem dX8_mayCircle_46 : decode cX8_mayCircle 46 = .ok (.iload_n 3, 1) := by decide +kernel
theorem dX8_mayCircle_47 : decode cX8_mayCircle 47 = .ok (.ifCond .eq 112, 3) := by decide +kernel
theorem dX8_mayCircle_50 : decode cX8_mayCircle 50 = .ok (.iconst 0, 1) := by decide +kernel
theorem dX8_mayCircle_51 : decode cX8_mayCircle 51 = .ok (.istore_n 3, 1) := by decide +kernel
theorem dX8_mayCircle_52 : decode cX8_mayCircle 52 = .ok (.iconst 0, 1) := by decide +kernel
theorem dX8_mayCircle_53 : decode cX8_mayCircle 53 = .ok (.istore 4, 2) := by decide +kernel
theorem dX8_mayCircle_55 : decode cX8_mayCircle 55 = .ok (.iload 4, 2) := by decide +kernel
theorem dX8_mayCircle_57 : decode cX8_mayCircle 57 = .ok (.iload_n 1, 1) := by decide +kernel
theorem dX8_mayCircle_58 : decode cX8_mayCircle 58 = .ok (.if_icmp .ge 98, 3) := by decide +kernel
theorem dX8_mayCircle_61 : decode cX8_mayCircle 61 = .ok (.aload_n 0, 1) := by decide +kernel
theorem dX8_mayCircle_62 : decode cX8_mayCircle 62 = .ok (.getfield 72, 3) := by decide +kernel
theorem dX8_mayCircle_65 : decode cX8_mayCircle 65 = .ok (.iload 4, 2) := by decide +kernel
theorem dX8_mayCircle_67 : decode cX8_mayCircle 67 = .ok (.baload, 1) := by decide +kernel
theorem dX8_mayCircle_68 : decode cX8_mayCircle 68 = .ok (.ifCond .ne 7, 3) := by decide +kernel
theorem dX8_mayCircle_71 : decode cX8_mayCircle 71 = .ok (.iconst 1, 1) := by decide +kernel
theorem dX8_mayCircle_72 : decode cX8_mayCircle 72 = .ok (.goto 4, 3) := by decide +kernel
theorem dX8_mayCircle_75 : decode cX8_mayCircle 75 = .ok (.iconst 0, 1) := by decide +kernel
theorem dX8_mayCircle_76 : decode cX8_mayCircle 76 = .ok (.istore 5, 2) := by decide +kernel
theorem dX8_mayCircle_78 : decode cX8_mayCircle 78 = .ok (.iconst 0, 1) := by decide +kernel
theorem dX8_mayCircle_79 : decode cX8_mayCircle 79 = .ok (.istore 6, 2) := by decide +kernel
theorem dX8_mayCircle_81 : decode cX8_mayCircle 81 = .ok (.iload 6, 2) := by decide +kernel
theorem dX8_mayCircle_83 : decode cX8_mayCircle 83 = .ok (.iload_n 1, 1) := by decide +kernel
theorem dX8_mayCircle_84 : decode cX8_mayCircle 84 = .ok (.if_icmp .ge 48, 3) := by decide +kernel
theorem dX8_mayCircle_87 : decode cX8_mayCircle 87 = .ok (.iload 5, 2) := by decide +kernel
theorem dX8_mayCircle_89 : decode cX8_mayCircle 89 = .ok (.ifCond .eq 43, 3) := by decide +kernel
theorem dX8_mayCircle_92 : decode cX8_mayCircle 92 = .ok (.aload_n 0, 1) := by decide +kernel
theorem dX8_mayCircle_93 : decode cX8_mayCircle 93 = .ok (.getfield 69, 3) := by decide +kernel
theorem dX8_mayCircle_96 : decode cX8_mayCircle 96 = .ok (.sipush 160, 3) := by decide +kernel
theorem dX8_mayCircle_99 : decode cX8_mayCircle 99 = .ok (.iload 4, 2) := by decide +kernel
theorem dX8_mayCircle_101 : decode cX8_mayCircle 101 = .ok (.imul, 1) := by decide +kernel
theorem dX8_mayCircle_102 : decode cX8_mayCircle 102 = .ok (.iload 6, 2) := by decide +kernel
theorem dX8_mayCircle_104 : decode cX8_mayCircle 104 = .ok (.iadd, 1) := by decide +kernel
theorem dX8_mayCircle_105 : decode cX8_mayCircle 105 = .ok (.baload, 1) := by decide +kernel
theorem dX8_mayCircle_106 : decode cX8_mayCircle 106 = .ok (.ifCond .eq 13, 3) := by decide +kernel
theorem dX8_mayCircle_109 : decode cX8_mayCircle 109 = .ok (.aload_n 0, 1) := by decide +kernel
theorem dX8_mayCircle_110 : decode cX8_mayCircle 110 = .ok (.getfield 72, 3) := by decide +kernel
theorem dX8_mayCircle_113 : decode cX8_mayCircle 113 = .ok (.iload 6, 2) := by decide +kernel
theorem dX8_mayCircle_115 : decode cX8_mayCircle 115 = .ok (.baload, 1) := by decide +kernel
theorem dX8_mayCircle_116 : decode cX8_mayCircle 116 = .ok (.ifCond .eq 7, 3) := by decide +kernel
theorem dX8_mayCircle_119 : decode cX8_mayCircle 119 = .ok (.iconst 1, 1) := by decide +kernel
theorem dX8_mayCircle_120 : decode cX8_mayCircle 120 = .ok (.goto 4, 3) := by decide +kernel
theorem dX8_mayCircle_123 : decode cX8_mayCircle 123 = .ok (.iconst 0, 1) := by decide +kernel
theorem dX8_mayCircle_124 : decode cX8_mayCircle 124 = .ok (.istore 5, 2) := by decide +kernel
theorem dX8_mayCircle_126 : decode cX8_mayCircle 126 = .ok (.iinc 6 1, 3) := by decide +kernel
theorem dX8_mayCircle_129 : decode cX8_mayCircle 129 = .ok (.goto (-48), 3) := by decide +kernel
theorem dX8_mayCircle_132 : decode cX8_mayCircle 132 = .ok (.iload 5, 2) := by decide +kernel
theorem dX8_mayCircle_134 : decode cX8_mayCircle 134 = .ok (.ifCond .eq 16, 3) := by decide +kernel
theorem dX8_mayCircle_137 : decode cX8_mayCircle 137 = .ok (.aload_n 0, 1) := by decide +kernel
theorem dX8_mayCircle_138 : decode cX8_mayCircle 138 = .ok (.getfield 72, 3) := by decide +kernel
theorem dX8_mayCircle_141 : decode cX8_mayCircle 141 = .ok (.iload 4, 2) := by decide +kernel
theorem dX8_mayCircle_143 : decode cX8_mayCircle 143 = .ok (.iconst 1, 1) := by decide +kernel
theorem dX8_mayCircle_144 : decode cX8_mayCircle 144 = .ok (.bastore, 1) := by decide +kernel
theorem dX8_mayCircle_145 : decode cX8_mayCircle 145 = .ok (.iconst 1, 1) := by decide +kernel
theorem dX8_mayCircle_146 : decode cX8_mayCircle 146 = .ok (.istore_n 3, 1) := by decide +kernel
theorem dX8_mayCircle_147 : decode cX8_mayCircle 147 = .ok (.iinc 2 (-1), 3) := by decide +kernel
theorem dX8_mayCircle_150 : decode cX8_mayCircle 150 = .ok (.iinc 4 1, 3) := by decide +kernel
theorem dX8_mayCircle_153 : decode cX8_mayCircle 153 = .ok (.goto (-98), 3) := by decide +kernel
theorem dX8_mayCircle_156 : decode cX8_mayCircle 156 = .ok (.goto (-110), 3) := by decide +kernel
theorem dX8_mayCircle_159 : decode cX8_mayCircle 159 = .ok (.iload_n 2, 1) := by decide +kernel
theorem dX8_mayCircle_160 : decode cX8_mayCircle 160 = .ok (.ifCond .le 7, 3) := by decide +kernel
theorem dX8_mayCircle_163 : decode cX8_mayCircle 163 = .ok (.iconst 1, 1) := by decide +kernel
theorem dX8_mayCircle_164 : decode cX8_mayCircle 164 = .ok (.goto 4, 3) := by decide +kernel
theorem dX8_mayCircle_167 : decode cX8_mayCircle 167 = .ok (.iconst 0, 1) := by decide +kernel
theorem dX8_mayCircle_168 : decode cX8_mayCircle 168 = .ok (.ireturn, 1) := by decide +kernel
theorem dJ9_max_7cf53_0 : decode cJ9_max_7cf53 0 = .ok (.iload_n 0, 1) := by decide +kernel
theorem dJ9_max_7cf53_1 : decode cJ9_max_7cf53 1 = .ok (.iload_n 1, 1) := by decide +kernel
theorem dJ9_max_7cf53_2 : decode cJ9_max_7cf53 2 = .ok (.if_icmp .lt 7, 3) := by decide +kernel
theorem dJ9_max_7cf53_5 : decode cJ9_max_7cf53 5 = .ok (.iload_n 0, 1) := by decide +kernel
theorem dJ9_max_7cf53_6 : decode cJ9_max_7cf53 6 = .ok (.goto 4, 3) := by decide +kernel
theorem dJ9_max_7cf53_9 : decode cJ9_max_7cf53 9 = .ok (.iload_n 1, 1) := by decide +kernel
theorem dJ9_max_7cf53_10 : decode cJ9_max_7cf53 10 = .ok (.ireturn, 1) := by decide +kernel
theorem dJ9_min_7cf53_0 : decode cJ9_min_7cf53 0 = .ok (.iload_n 0, 1) := by decide +kernel
theorem dJ9_min_7cf53_1 : decode cJ9_min_7cf53 1 = .ok (.iload_n 1, 1) := by decide +kernel
theorem dJ9_min_7cf53_2 : decode cJ9_min_7cf53 2 = .ok (.if_icmp .gt 7, 3) := by decide +kernel
theorem dJ9_min_7cf53_5 : decode cJ9_min_7cf53 5 = .ok (.iload_n 0, 1) := by decide +kernel
theorem dJ9_min_7cf53_6 : decode cJ9_min_7cf53 6 = .ok (.goto 4, 3) := by decide +kernel
theorem dJ9_min_7cf53_9 : decode cJ9_min_7cf53 9 = .ok (.iload_n 1, 1) := by decide +kernel
theorem dJ9_min_7cf53_10 : decode cJ9_min_7cf53 10 = .ok (.ireturn, 1) := by decide +kernel
set_option maxRecDepth 20000 in
theorem ggL_begin_X7_begin : GoodIn wsL_begin wsX7_begin := goodIn_ca (goodIn_r _ [6, 7, 8, 9, 10, 11, 12, 5, 13, 14, 15, 16, 17, 18, 19, 20, 21, 22, 23, 24, 25, 26, 27, 28, 29, 30, 31, 32, 33, 34, 35, 36, 37, 38, 39, 40, 41, 42, 43, 44, 45, 46, 47, 48, 49, 50, 51, 52, 53, 54, 55, 56, 57, 58, 59, 60, 61, 62, 63, 64, 65, 66, 67, 68, 69, 70, 71, 72, 73, 74, 75, 76, 77, 78, 79, 80, 81, 82, 83, 84, 85, 86, 87, 88, 89, 90, 91, 92, 93, 94, 95, 96, 97, 98, 99, 100, 101, 102, 103, 104, 105, 106, 107, 108, 109, 110, 111, 112, 113] (by decide +kernel) (by decide +kernel)) (goodIn_sub (fun _ h => List.mem_cons_of_mem _ (List.mem_append_right _ h)) (by decide +kernel))
set_option maxRecDepth 20000 in
theorem gL_begin_X7_begin : GoodIn wsL_begin (wsV RL 7 RX7 yX7_begin wsX7_begin) := goodIn_app (goodIn_of _ (by decide +kernel)) ggL_begin_X7_begin
theorem dL_begin_0 : decode cL_begin 0 = .ok (.aload 5, 2) := by decide +kernel
theorem dL_begin_2 : decode cL_begin 2 = .ok (.iconst 0, 1) := by decide +kernel
theorem dL_begin_3 : decode cL_begin 3 = .ok (.aload_n 0, 1) := by decide +kernel
theorem dL_begin_4 : decode cL_begin 4 = .ok (.iload_n 1, 1) := by decide +kernel
theorem dL_begin_5 : decode cL_begin 5 = .ok (.iload_n 2, 1) := by decide +kernel
theorem dL_begin_6 : decode cL_begin 6 = .ok (.iload_n 3, 1) := by decide +kernel
theorem dL_begin_7 : decode cL_begin 7 = .ok (.iload 4, 2) := by decide +kernel
theorem dL_begin_9 : decode cL_begin 9 = .ok (.invokevirtual 7, 3) := by decide +kernel
theorem dL_begin_12 : decode cL_begin 12 = .ok (.i2l, 1) := by decide +kernel
theorem dL_begin_13 : decode cL_begin 13 = .ok (.lastore, 1) := by decide +kernel
theorem dL_begin_14 : decode cL_begin 14 = .ok (.goto 7, 3) := by decide +kernel
theorem dL_begin_17 : decode cL_begin 17 = .ok (.astore 6, 2) := by decide +kernel
theorem dL_begin_19 : decode cL_begin 19 = .ok (.iconst 1, 1) := by decide +kernel
theorem dL_begin_20 : decode cL_begin 20 = .ok (.ireturn, 1) := by decide +kernel
theorem dL_begin_21 : decode cL_begin 21 = .ok (.iconst 0, 1) := by decide +kernel
theorem dL_begin_22 : decode cL_begin 22 = .ok (.ireturn, 1) := by decide +kernel
set_option maxRecDepth 20000 in
theorem ggL_send_X7_send : GoodIn wsL_send wsX7_send := goodIn_ca (goodIn_ca (goodIn_ca (goodIn_r _ [8, 9, 10, 11, 12, 13, 14, 15, 16, 17, 18, 19, 7, 20, 21, 22, 23, 24, 25, 26, 27, 28, 29, 30, 31, 32, 33, 34, 35, 36, 37, 38, 39, 40, 41, 42, 43, 44, 45, 46, 47, 48, 49, 50, 51, 52, 53, 54, 55, 56, 57, 58, 59, 60, 61, 62, 63, 64, 65, 66, 67, 68, 69, 70, 71, 72, 73, 74, 75, 76, 77, 78, 79, 80, 81, 82, 83, 84, 85, 86, 87, 88, 89, 90, 91, 92, 93, 94, 95, 96, 97, 98, 99, 100, 101, 102, 103, 104, 105, 106, 107, 108, 109, 110, 111, 112, 113, 114, 115, 116, 117, 118, 119, 120, 121, 122, 123, 124, 125, 126, 127, 128, 129, 130] (by decide +kernel) (by decide +kernel)) (goodIn_sub (fun _ h => List.mem_cons_of_mem _ (List.mem_append_left _ (List.mem_append_left _ (List.mem_append_right _ h)))) (by decide +kernel))) (goodIn_sub (fun _ h => List.mem_cons_of_mem _ (List.mem_append_left _ (List.mem_append_right _ h))) (by decide +kernel))) (goodIn_sub (fun _ h => List.mem_cons_of_mem _ (List.mem_append_right _ h)) (by decide +kernel))
set_option maxRecDepth 20000 in
theorem gL_send_X7_send : GoodIn wsL_send (wsV RL 15 RX7 yX7_send wsX7_send) := goodIn_app (goodIn_of _ (by decide +kernel)) ggL_send_X7_send
theorem dL_send_0 : decode cL_send 0 = .ok (.aload 5, 2) := by decide +kernel
theorem dL_send_2 : decode cL_send 2 = .ok (.iconst 0, 1) := by decide +kernel
theorem dL_send_3 : decode cL_send 3 = .ok (.aload_n 0, 1) := by decide +kernel
theorem dL_send_4 : decode cL_send 4 = .ok (.iload_n 1, 1) := by decide +kernel
theorem dL_send_5 : decode cL_send 5 = .ok (.iload_n 2, 1) := by decide +kernel
theorem dL_send_6 : decode cL_send 6 = .ok (.iload_n 3, 1) := by decide +kernel
theorem dL_send_7 : decode cL_send 7 = .ok (.iload 4, 2) := by decide +kernel
theorem dL_send_9 : decode cL_send 9 = .ok (.invokevirtual 15, 3) := by decide +kernel
theorem dL_send_12 : decode cL_send 12 = .ok (.i2l, 1) := by decide +kernel
theorem dL_send_13 : decode cL_send 13 = .ok (.lastore, 1) := by decide +kernel
theorem dL_send_14 : decode cL_send 14 = .ok (.goto 15, 3) := by decide +kernel
theorem dL_send_17 : decode cL_send 17 = .ok (.astore 6, 2) := by decide +kernel
theorem dL_send_19 : decode cL_send 19 = .ok (.iconst 1, 1) := by decide +kernel
theorem dL_send_20 : decode cL_send 20 = .ok (.ireturn, 1) := by decide +kernel
theorem dL_send_21 : decode cL_send 21 = .ok (.astore 6, 2) := by decide +kernel
theorem dL_send_23 : decode cL_send 23 = .ok (.iconst 2, 1) := by decide +kernel
theorem dL_send_24 : decode cL_send 24 = .ok (.ireturn, 1) := by decide +kernel
theorem dL_send_25 : decode cL_send 25 = .ok (.astore 6, 2) := by decide +kernel
theorem dL_send_27 : decode cL_send 27 = .ok (.iconst 3, 1) := by decide +kernel
theorem dL_send_28 : decode cL_send 28 = .ok (.ireturn, 1) := by decide +kernel
theorem dL_send_29 : decode cL_send 29 = .ok (.iconst 0, 1) := by decide +kernel
theorem dL_send_30 : decode cL_send 30 = .ok (.ireturn, 1) := by decide +kernel
set_option maxRecDepth 20000 in
theorem ggL_run_X7_run : GoodIn wsL_run wsX7_run := goodIn_ca (goodIn_r _ [6, 7, 8, 9, 10, 11, 12, 5, 13, 14, 15, 16, 17, 18, 19, 20, 21, 22, 23, 24, 25, 26, 27, 28, 29, 30, 31, 32, 33, 34, 35, 36, 37, 38, 39, 40, 41, 42, 43, 44, 45, 46, 47, 48, 49, 50, 51, 52, 53, 54, 55, 56, 57, 58, 59, 60, 61, 62, 63, 64, 65, 66, 67, 68, 69, 70, 71, 72, 73, 74, 75, 76, 77, 78, 79, 80, 81, 82, 83, 84, 85, 86, 87, 88, 89, 90, 91, 92, 93, 94, 95, 96, 97, 98, 99, 100, 101, 102, 103, 104, 105, 106, 107, 108, 109, 110, 111, 112, 113, 114, 115, 116, 117, 118, 119, 120, 121, 122, 123, 124, 125, 126, 127, 128, 129, 130, 131, 132, 133, 134, 135, 136, 137, 138, 139, 140, 141, 142, 143, 144, 145, 146, 147, 148, 149, 150, 151, 152, 153, 154, 155, 156, 157, 158, 159, 160, 161, 162, 163, 164, 165, 166, 167, 168, 169, 170, 171, 172, 173, 174, 175, 176, 177, 178, 179, 180, 181, 182, 183, 184, 185, 186, 187, 188, 189, 190, 191, 192, 193, 194, 195, 196, 197, 198, 199, 200, 201, 202, 203, 204, 205, 206, 207, 208, 209, 210, 211, 212, 213, 214, 215] (by decide +kernel) (by decide +kernel)) (goodIn_sub (fun _ h => List.mem_cons_of_mem _ (List.mem_append_right _ h)) (by decide +kernel))
set_option maxRecDepth 20000 in
theorem gL_run_X7_run : GoodIn wsL_run (wsV RL 22 RX7 yX7_run wsX7_run) := goodIn_app (goodIn_of _ (by decide +kernel)) ggL_run_X7_run
theorem dL_run_0 : decode cL_run 0 = .ok (.aload_n 2, 1) := by decide +kernel
theorem dL_run_1 : decode cL_run 1 = .ok (.iconst 0, 1) := by decide +kernel
theorem dL_run_2 : decode cL_run 2 = .ok (.aload_n 0, 1) := by decide +kernel
theorem dL_run_3 : decode cL_run 3 = .ok (.iload_n 1, 1) := by decide +kernel
theorem dL_run_4 : decode cL_run 4 = .ok (.invokevirtual 22, 3) := by decide +kernel
theorem dL_run_7 : decode cL_run 7 = .ok (.i2l, 1) := by decide +kernel
theorem dL_run_8 : decode cL_run 8 = .ok (.lastore, 1) := by decide +kernel
theorem dL_run_9 : decode cL_run 9 = .ok (.goto 6, 3) := by decide +kernel
theorem dL_run_12 : decode cL_run 12 = .ok (.astore_n 3, 1) := by decide +kernel
theorem dL_run_13 : decode cL_run 13 = .ok (.iconst 1, 1) := by decide +kernel
theorem dL_run_14 : decode cL_run 14 = .ok (.ireturn, 1) := by decide +kernel
theorem dL_run_15 : decode cL_run 15 = .ok (.iconst 0, 1) := by decide +kernel
theorem dL_run_16 : decode cL_run 16 = .ok (.ireturn, 1) := by decide +kernel
set_option maxRecDepth 20000 in
theorem ggL_pause_X7_pause : GoodIn wsL_pause wsX7_pause := goodIn_ca (goodIn_r _ [6, 7, 8, 9, 10, 5, 11, 12, 13, 14, 15, 16, 17, 18, 19, 20, 21, 22, 23, 24, 25, 26, 27, 28, 29, 30, 31, 32, 33, 34, 35, 36, 37, 38, 39, 40, 41, 42, 43, 44, 45, 46, 47, 48, 49, 50, 51, 52] (by decide +kernel) (by decide +kernel)) (goodIn_sub (fun _ h => List.mem_cons_of_mem _ (List.mem_append_right _ h)) (by decide +kernel))
set_option maxRecDepth 20000 in
theorem gL_pause_X7_pause : GoodIn wsL_pause (wsV RL 26 RX7 yX7_pause wsX7_pause) := goodIn_app (goodIn_of _ (by decide +kernel)) ggL_pause_X7_pause
theorem dL_pause_0 : decode cL_pause 0 = .ok (.aload_n 3, 1) := by decide +kernel
theorem dL_pause_1 : decode cL_pause 1 = .ok (.iconst 0, 1) := by decide +kernel
theorem dL_pause_2 : decode cL_pause 2 = .ok (.aload_n 0, 1) := by decide +kernel
theorem dL_pause_3 : decode cL_pause 3 = .ok (.iload_n 1, 1) := by decide +kernel
theorem dL_pause_4 : decode cL_pause 4 = .ok (.iload_n 2, 1) := by decide +kernel
theorem dL_pause_5 : decode cL_pause 5 = .ok (.invokevirtual 26, 3) := by decide +kernel
theorem dL_pause_8 : decode cL_pause 8 = .ok (.ifCond .eq 7, 3) := by decide +kernel
theorem dL_pause_11 : decode cL_pause 11 = .ok (.lconst 1, 1) := by decide +kernel
theorem dL_pause_12 : decode cL_pause 12 = .ok (.goto 4, 3) := by decide +kernel
theorem dL_pause_15 : decode cL_pause 15 = .ok (.lconst 0, 1) := by decide +kernel
theorem dL_pause_16 : decode cL_pause 16 = .ok (.lastore, 1) := by decide +kernel
theorem dL_pause_17 : decode cL_pause 17 = .ok (.goto 7, 3) := by decide +kernel
theorem dL_pause_20 : decode cL_pause 20 = .ok (.astore 4, 2) := by decide +kernel
theorem dL_pause_22 : decode cL_pause 22 = .ok (.iconst 1, 1) := by decide +kernel
theorem dL_pause_23 : decode cL_pause 23 = .ok (.ireturn, 1) := by decide +kernel
theorem dL_pause_24 : decode cL_pause 24 = .ok (.iconst 0, 1) := by decide +kernel
theorem dL_pause_25 : decode cL_pause 25 = .ok (.ireturn, 1) := by decide +kernel
set_option maxRecDepth 20000 in
theorem ggL_lose_X7_lose : GoodIn wsL_lose wsX7_lose := goodIn_ca (goodIn_ca (goodIn_ca (goodIn_r _ [8, 9, 10, 11, 12, 13, 14, 7, 15, 16, 17, 18, 19, 20, 21, 22, 23, 24, 25, 26, 27, 28, 29, 30, 31, 32, 33, 34, 35, 36, 37, 38, 39, 40, 41, 42, 43, 44, 45, 46, 47, 48, 49, 50, 51, 52, 53, 54, 55, 56, 57, 58, 59, 60, 61, 62, 63, 64, 65, 66, 67, 68, 69, 70, 71, 72, 73, 74, 75, 76, 77, 78, 79, 80, 81, 82, 83, 84, 85, 86, 87, 88, 89, 90, 91, 92, 93, 94, 95, 96, 97, 98] (by decide +kernel) (by decide +kernel)) (goodIn_sub (fun _ h => List.mem_cons_of_mem _ (List.mem_append_left _ (List.mem_append_left _ (List.mem_append_right _ h)))) (by decide +kernel))) (goodIn_sub (fun _ h => List.mem_cons_of_mem _ (List.mem_append_left _ (List.mem_append_right _ h))) (by decide +kernel))) (goodIn_sub (fun _ h => List.mem_cons_of_mem _ (List.mem_append_right _ h)) (by decide +kernel))
set_option maxRecDepth 20000 in
theorem gL_lose_X7_lose : GoodIn wsL_lose (wsV RL 30 RX7 yX7_lose wsX7_lose) := goodIn_app (goodIn_of _ (by decide +kernel)) ggL_lose_X7_lose
theorem dL_lose_0 : decode cL_lose 0 = .ok (.aload 4, 2) := by decide +kernel
theorem dL_lose_2 : decode cL_lose 2 = .ok (.iconst 0, 1) := by decide +kernel
theorem dL_lose_3 : decode cL_lose 3 = .ok (.aload_n 0, 1) := by decide +kernel
theorem dL_lose_4 : decode cL_lose 4 = .ok (.iload_n 1, 1) := by decide +kernel
theorem dL_lose_5 : decode cL_lose 5 = .ok (.iload_n 2, 1) := by decide +kernel
theorem dL_lose_6 : decode cL_lose 6 = .ok (.iload_n 3, 1) := by decide +kernel
theorem dL_lose_7 : decode cL_lose 7 = .ok (.invokevirtual 30, 3) := by decide +kernel
theorem dL_lose_10 : decode cL_lose 10 = .ok (.i2l, 1) := by decide +kernel
theorem dL_lose_11 : decode cL_lose 11 = .ok (.lastore, 1) := by decide +kernel
theorem dL_lose_12 : decode cL_lose 12 = .ok (.goto 15, 3) := by decide +kernel
theorem dL_lose_15 : decode cL_lose 15 = .ok (.astore 5, 2) := by decide +kernel
theorem dL_lose_17 : decode cL_lose 17 = .ok (.iconst 1, 1) := by decide +kernel
theorem dL_lose_18 : decode cL_lose 18 = .ok (.ireturn, 1) := by decide +kernel
theorem dL_lose_19 : decode cL_lose 19 = .ok (.astore 5, 2) := by decide +kernel
theorem dL_lose_21 : decode cL_lose 21 = .ok (.iconst 2, 1) := by decide +kernel
theorem dL_lose_22 : decode cL_lose 22 = .ok (.ireturn, 1) := by decide +kernel
theorem dL_lose_23 : decode cL_lose 23 = .ok (.astore 5, 2) := by decide +kernel
theorem dL_lose_25 : decode cL_lose 25 = .ok (.iconst 3, 1) := by decide +kernel
theorem dL_lose_26 : decode cL_lose 26 = .ok (.ireturn, 1) := by decide +kernel
theorem dL_lose_27 : decode cL_lose 27 = .ok (.iconst 0, 1) := by decide +kernel
theorem dL_lose_28 : decode cL_lose 28 = .ok (.ireturn, 1) := by decide +kernel
set_option maxRecDepth 20000 in
theorem ggL_credits_X7_credits : GoodIn wsL_credits wsX7_credits := goodIn_ca (goodIn_ca (goodIn_r _ [7, 8, 9, 10, 11, 6, 12, 13, 14, 15, 16, 17, 18, 19, 20, 21, 22, 23, 24, 25, 26, 27, 28, 29, 30, 31, 32, 33, 34, 35, 36, 37, 38, 39, 40, 41, 42, 43, 44, 45, 46, 47, 48, 49, 50, 51, 52, 53, 54, 55, 56, 57, 58, 59, 60, 61, 62, 63, 64, 65, 66, 67, 68, 69, 70, 71, 72, 73, 74, 75, 76, 77, 78, 79, 80, 81, 82] (by decide +kernel) (by decide +kernel)) (goodIn_sub (fun _ h => List.mem_cons_of_mem _ (List.mem_append_left _ (List.mem_append_right _ h))) (by decide +kernel))) (goodIn_sub (fun _ h => List.mem_cons_of_mem _ (List.mem_append_right _ h)) (by decide +kernel))
set_option maxRecDepth 20000 in
theorem gL_credits_X7_credits : GoodIn wsL_credits (wsV RL 34 RX7 yX7_credits wsX7_credits) := goodIn_app (goodIn_of _ (by decide +kernel)) ggL_credits_X7_credits
theorem dL_credits_0 : decode cL_credits 0 = .ok (.aload 4, 2) := by decide +kernel
theorem dL_credits_2 : decode cL_credits 2 = .ok (.iconst 0, 1) := by decide +kernel
theorem dL_credits_3 : decode cL_credits 3 = .ok (.aload_n 0, 1) := by decide +kernel
theorem dL_credits_4 : decode cL_credits 4 = .ok (.iload_n 1, 1) := by decide +kernel
theorem dL_credits_5 : decode cL_credits 5 = .ok (.iload_n 2, 1) := by decide +kernel
theorem dL_credits_6 : decode cL_credits 6 = .ok (.iload_n 3, 1) := by decide +kernel
theorem dL_credits_7 : decode cL_credits 7 = .ok (.invokevirtual 34, 3) := by decide +kernel
theorem dL_credits_10 : decode cL_credits 10 = .ok (.i2l, 1) := by decide +kernel
theorem dL_credits_11 : decode cL_credits 11 = .ok (.lastore, 1) := by decide +kernel
theorem dL_credits_12 : decode cL_credits 12 = .ok (.goto 11, 3) := by decide +kernel
theorem dL_credits_15 : decode cL_credits 15 = .ok (.astore 5, 2) := by decide +kernel
theorem dL_credits_17 : decode cL_credits 17 = .ok (.iconst 1, 1) := by decide +kernel
theorem dL_credits_18 : decode cL_credits 18 = .ok (.ireturn, 1) := by decide +kernel
theorem dL_credits_19 : decode cL_credits 19 = .ok (.astore 5, 2) := by decide +kernel
theorem dL_credits_21 : decode cL_credits 21 = .ok (.iconst 2, 1) := by decide +kernel
theorem dL_credits_22 : decode cL_credits 22 = .ok (.ireturn, 1) := by decide +kernel
theorem dL_credits_23 : decode cL_credits 23 = .ok (.iconst 0, 1) := by decide +kernel
theorem dL_credits_24 : decode cL_credits 24 = .ok (.ireturn, 1) := by decide +kernel
set_option maxRecDepth 20000 in
theorem ggL_inBuffer_X7_inBuffer : GoodIn wsL_inBuffer wsX7_inBuffer := goodIn_ca (goodIn_ca (goodIn_r _ [7, 8, 9, 10, 11, 12, 13, 6, 14, 15, 16, 17, 18, 19, 20, 21, 22, 23, 24, 25, 26, 27, 28, 29, 30, 31, 32, 33, 34, 35, 36, 37, 38, 39, 40, 41, 42, 43, 44, 45, 46, 47, 48, 49, 50, 51, 52, 53, 54, 55, 56, 57, 58, 59, 60, 61, 62, 63, 64, 65, 66] (by decide +kernel) (by decide +kernel)) (goodIn_sub (fun _ h => List.mem_cons_of_mem _ (List.mem_append_left _ (List.mem_append_right _ h))) (by decide +kernel))) (goodIn_sub (fun _ h => List.mem_cons_of_mem _ (List.mem_append_right _ h)) (by decide +kernel))
set_option maxRecDepth 20000 in
theorem gL_inBuffer_X7_inBuffer : GoodIn wsL_inBuffer (wsV RL 37 RX7 yX7_inBuffer wsX7_inBuffer) := goodIn_app (goodIn_of _ (by decide +kernel)) ggL_inBuffer_X7_inBuffer
theorem dL_inBuffer_0 : decode cL_inBuffer 0 = .ok (.aload 4, 2) := by decide +kernel
theorem dL_inBuffer_2 : decode cL_inBuffer 2 = .ok (.iconst 0, 1) := by decide +kernel
theorem dL_inBuffer_3 : decode cL_inBuffer 3 = .ok (.aload_n 0, 1) := by decide +kernel
theorem dL_inBuffer_4 : decode cL_inBuffer 4 = .ok (.iload_n 1, 1) := by decide +kernel
theorem dL_inBuffer_5 : decode cL_inBuffer 5 = .ok (.iload_n 2, 1) := by decide +kernel
theorem dL_inBuffer_6 : decode cL_inBuffer 6 = .ok (.iload_n 3, 1) := by decide +kernel
theorem dL_inBuffer_7 : decode cL_inBuffer 7 = .ok (.invokevirtual 37, 3) := by decide +kernel
theorem dL_inBuffer_10 : decode cL_inBuffer 10 = .ok (.i2l, 1) := by decide +kernel
theorem dL_inBuffer_11 : decode cL_inBuffer 11 = .ok (.lastore, 1) := by decide +kernel
theorem dL_inBuffer_12 : decode cL_inBuffer 12 = .ok (.goto 11, 3) := by decide +kernel
theorem dL_inBuffer_15 : decode cL_inBuffer 15 = .ok (.astore 5, 2) := by decide +kernel
theorem dL_inBuffer_17 : decode cL_inBuffer 17 = .ok (.iconst 1, 1) := by decide +kernel
theorem dL_inBuffer_18 : decode cL_inBuffer 18 = .ok (.ireturn, 1) := by decide +kernel
theorem dL_inBuffer_19 : decode cL_inBuffer 19 = .ok (.astore 5, 2) := by decide +kernel
theorem dL_inBuffer_21 : decode cL_inBuffer 21 = .ok (.iconst 2, 1) := by decide +kernel
theorem dL_inBuffer_22 : decode cL_inBuffer 22 = .ok (.ireturn, 1) := by decide +kernel
theorem dL_inBuffer_23 : decode cL_inBuffer 23 = .ok (.iconst 0, 1) := by decide +kernel
theorem dL_inBuffer_24 : decode cL_inBuffer 24 = .ok (.ireturn, 1) := by decide +kernel
set_option maxRecDepth 20000 in
theorem ggL_gap_X7_gap : GoodIn wsL_gap wsX7_gap := goodIn_ca (goodIn_r _ [6, 7, 8, 9, 10, 5, 11, 12, 13, 14, 15, 16, 17, 18, 19, 20, 21, 22, 23, 24, 25, 26, 27, 28, 29, 30, 31, 32, 33, 34, 35, 36, 37, 38, 39, 40, 41, 42, 43, 44, 45, 46, 47, 48, 49, 50, 51, 52, 53, 54, 55, 56] (by decide +kernel) (by decide +kernel)) (goodIn_sub (fun _ h => List.mem_cons_of_mem _ (List.mem_append_right _ h)) (by decide +kernel))
set_option maxRecDepth 20000 in
theorem gL_gap_X7_gap : GoodIn wsL_gap (wsV RL 40 RX7 yX7_gap wsX7_gap) := goodIn_app (goodIn_of _ (by decide +kernel)) ggL_gap_X7_gap
theorem dL_gap_0 : decode cL_gap 0 = .ok (.aload_n 2, 1) := by decide +kernel
theorem dL_gap_1 : decode cL_gap 1 = .ok (.iconst 0, 1) := by decide +kernel
theorem dL_gap_2 : decode cL_gap 2 = .ok (.aload_n 0, 1) := by decide +kernel
theorem dL_gap_3 : decode cL_gap 3 = .ok (.iload_n 1, 1) := by decide +kernel
theorem dL_gap_4 : decode cL_gap 4 = .ok (.invokevirtual 40, 3) := by decide +kernel
theorem dL_gap_7 : decode cL_gap 7 = .ok (.i2l, 1) := by decide +kernel
theorem dL_gap_8 : decode cL_gap 8 = .ok (.lastore, 1) := by decide +kernel
theorem dL_gap_9 : decode cL_gap 9 = .ok (.goto 6, 3) := by decide +kernel
theorem dL_gap_12 : decode cL_gap 12 = .ok (.astore_n 3, 1) := by decide +kernel
theorem dL_gap_13 : decode cL_gap 13 = .ok (.iconst 1, 1) := by decide +kernel
theorem dL_gap_14 : decode cL_gap 14 = .ok (.ireturn, 1) := by decide +kernel
theorem dL_gap_15 : decode cL_gap 15 = .ok (.iconst 0, 1) := by decide +kernel
theorem dL_gap_16 : decode cL_gap 16 = .ok (.ireturn, 1) := by decide +kernel
set_option maxRecDepth 20000 in
theorem ggL_placeOf_X7_placeOf : GoodIn wsL_placeOf wsX7_placeOf := goodIn_ca (goodIn_r _ [6, 7, 8, 9, 10, 5, 11, 12, 13, 14, 15, 16, 17, 18, 19, 20, 21, 22, 23, 24, 25, 26, 27, 28, 29, 30, 31, 32, 33, 34, 35, 36, 37, 38, 39, 40, 41, 42, 43] (by decide +kernel) (by decide +kernel)) (goodIn_sub (fun _ h => List.mem_cons_of_mem _ (List.mem_append_right _ h)) (by decide +kernel))
set_option maxRecDepth 20000 in
theorem gL_placeOf_X7_placeOf : GoodIn wsL_placeOf (wsV RL 43 RX7 yX7_placeOf wsX7_placeOf) := goodIn_app (goodIn_of _ (by decide +kernel)) ggL_placeOf_X7_placeOf
theorem dL_placeOf_0 : decode cL_placeOf 0 = .ok (.aload_n 2, 1) := by decide +kernel
theorem dL_placeOf_1 : decode cL_placeOf 1 = .ok (.iconst 0, 1) := by decide +kernel
theorem dL_placeOf_2 : decode cL_placeOf 2 = .ok (.aload_n 0, 1) := by decide +kernel
theorem dL_placeOf_3 : decode cL_placeOf 3 = .ok (.iload_n 1, 1) := by decide +kernel
theorem dL_placeOf_4 : decode cL_placeOf 4 = .ok (.invokevirtual 43, 3) := by decide +kernel
theorem dL_placeOf_7 : decode cL_placeOf 7 = .ok (.i2l, 1) := by decide +kernel
theorem dL_placeOf_8 : decode cL_placeOf 8 = .ok (.lastore, 1) := by decide +kernel
theorem dL_placeOf_9 : decode cL_placeOf 9 = .ok (.goto 6, 3) := by decide +kernel
theorem dL_placeOf_12 : decode cL_placeOf 12 = .ok (.astore_n 3, 1) := by decide +kernel
theorem dL_placeOf_13 : decode cL_placeOf 13 = .ok (.iconst 1, 1) := by decide +kernel
theorem dL_placeOf_14 : decode cL_placeOf 14 = .ok (.ireturn, 1) := by decide +kernel
theorem dL_placeOf_15 : decode cL_placeOf 15 = .ok (.iconst 0, 1) := by decide +kernel
theorem dL_placeOf_16 : decode cL_placeOf 16 = .ok (.ireturn, 1) := by decide +kernel
set_option maxRecDepth 20000 in
theorem ggL_hops_X7_hops : GoodIn wsL_hops wsX7_hops := goodIn_ca (goodIn_r _ [6, 7, 8, 9, 10, 5, 11, 12, 13, 14, 15, 16, 17, 18, 19, 20, 21, 22, 23, 24, 25, 26, 27, 28, 29, 30, 31, 32, 33, 34, 35, 36, 37, 38, 39, 40, 41, 42, 43] (by decide +kernel) (by decide +kernel)) (goodIn_sub (fun _ h => List.mem_cons_of_mem _ (List.mem_append_right _ h)) (by decide +kernel))
set_option maxRecDepth 20000 in
theorem gL_hops_X7_hops : GoodIn wsL_hops (wsV RL 46 RX7 yX7_hops wsX7_hops) := goodIn_app (goodIn_of _ (by decide +kernel)) ggL_hops_X7_hops
theorem dL_hops_0 : decode cL_hops 0 = .ok (.aload_n 2, 1) := by decide +kernel
theorem dL_hops_1 : decode cL_hops 1 = .ok (.iconst 0, 1) := by decide +kernel
theorem dL_hops_2 : decode cL_hops 2 = .ok (.aload_n 0, 1) := by decide +kernel
theorem dL_hops_3 : decode cL_hops 3 = .ok (.iload_n 1, 1) := by decide +kernel
theorem dL_hops_4 : decode cL_hops 4 = .ok (.invokevirtual 46, 3) := by decide +kernel
theorem dL_hops_7 : decode cL_hops 7 = .ok (.i2l, 1) := by decide +kernel
theorem dL_hops_8 : decode cL_hops 8 = .ok (.lastore, 1) := by decide +kernel
theorem dL_hops_9 : decode cL_hops 9 = .ok (.goto 6, 3) := by decide +kernel
theorem dL_hops_12 : decode cL_hops 12 = .ok (.astore_n 3, 1) := by decide +kernel
theorem dL_hops_13 : decode cL_hops 13 = .ok (.iconst 1, 1) := by decide +kernel
theorem dL_hops_14 : decode cL_hops 14 = .ok (.ireturn, 1) := by decide +kernel
theorem dL_hops_15 : decode cL_hops 15 = .ok (.iconst 0, 1) := by decide +kernel
theorem dL_hops_16 : decode cL_hops 16 = .ok (.ireturn, 1) := by decide +kernel
set_option maxRecDepth 20000 in
theorem ggL_isMarked_X7_isMarked : GoodIn wsL_isMarked wsX7_isMarked := goodIn_ca (goodIn_r _ [6, 7, 8, 9, 10, 5, 11, 12, 13, 14, 15, 16, 17, 18, 19, 20, 21, 22, 23, 24, 25, 26, 27, 28, 29, 30, 31, 32, 33, 34, 35, 36, 37, 38, 39, 40, 41, 42, 43] (by decide +kernel) (by decide +kernel)) (goodIn_sub (fun _ h => List.mem_cons_of_mem _ (List.mem_append_right _ h)) (by decide +kernel))
set_option maxRecDepth 20000 in
theorem gL_isMarked_X7_isMarked : GoodIn wsL_isMarked (wsV RL 49 RX7 yX7_isMarked wsX7_isMarked) := goodIn_app (goodIn_of _ (by decide +kernel)) ggL_isMarked_X7_isMarked
theorem dL_isMarked_0 : decode cL_isMarked 0 = .ok (.aload_n 2, 1) := by decide +kernel
theorem dL_isMarked_1 : decode cL_isMarked 1 = .ok (.iconst 0, 1) := by decide +kernel
theorem dL_isMarked_2 : decode cL_isMarked 2 = .ok (.aload_n 0, 1) := by decide +kernel
theorem dL_isMarked_3 : decode cL_isMarked 3 = .ok (.iload_n 1, 1) := by decide +kernel
theorem dL_isMarked_4 : decode cL_isMarked 4 = .ok (.invokevirtual 49, 3) := by decide +kernel
theorem dL_isMarked_7 : decode cL_isMarked 7 = .ok (.ifCond .eq 7, 3) := by decide +kernel
theorem dL_isMarked_10 : decode cL_isMarked 10 = .ok (.lconst 1, 1) := by decide +kernel
theorem dL_isMarked_11 : decode cL_isMarked 11 = .ok (.goto 4, 3) := by decide +kernel
theorem dL_isMarked_14 : decode cL_isMarked 14 = .ok (.lconst 0, 1) := by decide +kernel
theorem dL_isMarked_15 : decode cL_isMarked 15 = .ok (.lastore, 1) := by decide +kernel
theorem dL_isMarked_16 : decode cL_isMarked 16 = .ok (.goto 6, 3) := by decide +kernel
theorem dL_isMarked_19 : decode cL_isMarked 19 = .ok (.astore_n 3, 1) := by decide +kernel
theorem dL_isMarked_20 : decode cL_isMarked 20 = .ok (.iconst 1, 1) := by decide +kernel
theorem dL_isMarked_21 : decode cL_isMarked 21 = .ok (.ireturn, 1) := by decide +kernel
theorem dL_isMarked_22 : decode cL_isMarked 22 = .ok (.iconst 0, 1) := by decide +kernel
theorem dL_isMarked_23 : decode cL_isMarked 23 = .ok (.ireturn, 1) := by decide +kernel
set_option maxRecDepth 20000 in
theorem ggL_wants_X7_wants : GoodIn wsL_wants wsX7_wants := goodIn_ca (goodIn_r _ [6, 7, 8, 9, 10, 5, 11, 12, 13, 14, 15, 16, 17, 18, 19, 20, 21, 22, 23, 24, 25, 26, 27, 28, 29, 30, 31, 32, 33, 34, 35, 36, 37, 38, 39, 40, 41, 42, 43, 44, 45, 46, 47, 48, 49, 50, 51, 52, 53, 54, 55, 56, 57, 58, 59, 60, 61, 62, 63, 64, 65, 66, 67] (by decide +kernel) (by decide +kernel)) (goodIn_sub (fun _ h => List.mem_cons_of_mem _ (List.mem_append_right _ h)) (by decide +kernel))
set_option maxRecDepth 20000 in
theorem gL_wants_X7_wants : GoodIn wsL_wants (wsV RL 53 RX7 yX7_wants wsX7_wants) := goodIn_app (goodIn_of _ (by decide +kernel)) ggL_wants_X7_wants
theorem dL_wants_0 : decode cL_wants 0 = .ok (.aload_n 2, 1) := by decide +kernel
theorem dL_wants_1 : decode cL_wants 1 = .ok (.iconst 0, 1) := by decide +kernel
theorem dL_wants_2 : decode cL_wants 2 = .ok (.aload_n 0, 1) := by decide +kernel
theorem dL_wants_3 : decode cL_wants 3 = .ok (.iload_n 1, 1) := by decide +kernel
theorem dL_wants_4 : decode cL_wants 4 = .ok (.invokevirtual 53, 3) := by decide +kernel
theorem dL_wants_7 : decode cL_wants 7 = .ok (.i2l, 1) := by decide +kernel
theorem dL_wants_8 : decode cL_wants 8 = .ok (.lastore, 1) := by decide +kernel
theorem dL_wants_9 : decode cL_wants 9 = .ok (.goto 6, 3) := by decide +kernel
theorem dL_wants_12 : decode cL_wants 12 = .ok (.astore_n 3, 1) := by decide +kernel
theorem dL_wants_13 : decode cL_wants 13 = .ok (.iconst 1, 1) := by decide +kernel
theorem dL_wants_14 : decode cL_wants 14 = .ok (.ireturn, 1) := by decide +kernel
theorem dL_wants_15 : decode cL_wants 15 = .ok (.iconst 0, 1) := by decide +kernel
theorem dL_wants_16 : decode cL_wants 16 = .ok (.ireturn, 1) := by decide +kernel
set_option maxRecDepth 20000 in
theorem ggL_law_X7_init : GoodIn wsL_law wsX7_init := goodIn_r _ [9, 10, 11, 12, 13, 14, 15, 16, 17, 18, 19, 20, 21, 22, 23, 24, 25, 26, 27, 28, 29, 30, 31, 32, 33, 34, 35, 36, 37, 38, 39, 40, 41, 42, 43, 44, 45, 46, 47, 48, 49, 50, 51, 52, 53, 54, 55, 56, 57, 58, 59, 60, 61, 62, 63, 64, 65, 66, 67, 68, 69, 70, 71, 72, 73, 74, 75, 76, 77, 78, 79, 80, 81, 82, 83, 84, 85, 86, 87, 88, 89, 90, 91, 92, 93, 94, 95, 96, 97, 98, 99, 100, 101, 102, 103, 104, 105, 106, 2, 107, 108, 109, 110, 111, 112, 113, 114, 115, 116, 117, 118, 119, 120, 121, 122, 123, 124, 125, 126, 127, 128, 129, 130, 131, 132, 133, 134, 135, 136, 137, 138, 139, 140, 141, 142, 143, 144, 145, 146, 708, 709, 710, 711, 670, 671, 672, 673, 674, 675, 676, 677, 678, 679, 680, 681, 712, 713, 714, 715, 716, 717, 718, 719, 720, 721, 722, 723, 724, 725, 726, 727, 728, 729, 730, 731, 732, 733, 734, 735, 736, 737] (by decide +kernel) (by decide +kernel)
set_option maxRecDepth 20000 in
theorem gL_law_X7_init : GoodIn wsL_law (wsX7_init) := ggL_law_X7_init
set_option maxRecDepth 20000 in
theorem ggL_law_X8_init : GoodIn wsL_law wsX8_init := goodIn_r _ [149, 150, 11, 12, 151, 152, 153, 54, 154, 155, 156, 157, 158, 159, 160, 161, 162, 163, 164, 165, 166, 167, 168, 169, 170, 171, 172, 173, 174, 175, 5, 176, 177, 178, 179, 180, 682, 683, 684, 685, 686, 687, 688, 689, 690, 691, 692, 693, 694, 695, 696, 697, 698, 699, 700, 701, 702, 703, 704, 705, 706, 707] (by decide +kernel) (by decide +kernel)
set_option maxRecDepth 20000 in
theorem gL_law_X8_init : GoodIn wsL_law (wsX8_init) := ggL_law_X8_init
set_option maxRecDepth 20000 in
theorem ggL_law_L_begin : GoodIn wsL_law wsL_begin := goodIn_ca (goodIn_r _ [184, 185, 186, 187, 188, 2, 189, 190, 191, 16, 104, 105, 106, 107, 20, 24, 28, 32, 40, 41, 108, 109, 110, 111, 15, 112, 113, 114, 48, 49, 115, 116, 117, 39, 118, 55, 119, 120, 121, 19, 122, 123, 124, 125, 126, 127, 23, 128, 129, 76, 130, 131, 132, 133, 134, 135, 136, 27, 137, 138, 82, 83, 139, 140, 141, 142, 143, 31, 144, 89, 90, 145, 146, 192, 193, 194, 195, 670, 671, 672, 673, 674, 675, 676, 677, 678, 679, 680, 681, 708, 709, 710, 711, 737, 712, 713, 714, 715, 716, 717, 718, 719, 720, 721, 722, 723, 724, 725, 726, 727, 728, 729, 730, 731] (by decide +kernel) (by decide +kernel)) (goodIn_sub (fun _ h => List.mem_append_left _ (List.mem_append_left _ (List.mem_append_right _ h))) (by decide +kernel))
set_option maxRecDepth 20000 in
theorem gL_law_L_begin : GoodIn wsL_law (va_wsS RL 60 yL_begin wsL_begin) := goodIn_app (goodIn_of _ (by decide +kernel)) ggL_law_L_begin
set_option maxRecDepth 20000 in
theorem ggL_law_X8_begin : GoodIn wsL_law wsX8_begin := goodIn_r _ [199, 200, 201, 5, 202, 203, 204, 205, 206, 207, 173, 174, 175, 176, 151, 152, 153, 177, 178, 179, 180, 155, 156, 157, 158, 159, 160, 162, 682, 683, 684, 685, 686, 687, 688, 689, 690, 691, 692, 693, 694, 695, 696, 697, 698, 699, 700, 701, 702, 703, 704, 705, 706, 707] (by decide +kernel) (by decide +kernel)
set_option maxRecDepth 20000 in
theorem gL_law_X8_begin : GoodIn wsL_law (wsV RL 65 RX8 yX8_begin wsX8_begin) := goodIn_app (goodIn_of _ (by decide +kernel)) ggL_law_X8_begin
set_option maxRecDepth 20000 in
theorem ggL_law_X8_thrown : GoodIn wsL_law wsX8_thrown := goodIn_r _ [211, 207, 682, 683, 684, 685, 686, 687, 688, 689, 690, 691, 692, 693, 694, 695, 696, 697, 698, 699, 700, 701, 702, 703, 704, 705, 706, 707] (by decide +kernel) (by decide +kernel)
set_option maxRecDepth 20000 in
theorem gL_law_X8_thrown : GoodIn wsL_law (wsV RL 66 RX8 yX8_thrown wsX8_thrown) := goodIn_app (goodIn_of _ (by decide +kernel)) ggL_law_X8_thrown
set_option maxRecDepth 20000 in
theorem ggL_law_L_send : GoodIn wsL_law wsL_send := goodIn_ca (goodIn_ca (goodIn_ca (goodIn_r _ [214, 215, 185, 216, 217, 218, 219, 2, 220, 190, 191, 221, 222, 24, 32, 108, 20, 223, 224, 225, 226, 227, 228, 16, 229, 230, 231, 15, 232, 233, 193, 194, 195, 113, 114, 234, 235, 236, 237, 238, 239, 240, 241, 242, 23, 243, 76, 129, 244, 245, 246, 39, 247, 55, 248, 249, 250, 31, 251, 90, 89, 252, 253, 254, 255, 19, 256, 123, 61, 62, 63, 64, 65, 66, 67, 68, 257, 116, 117, 118, 258, 259, 260, 261, 75, 262, 263, 264, 265, 266, 267, 268, 269, 270, 271, 272, 273, 274, 670, 671, 672, 673, 674, 675, 676, 677, 678, 679, 680, 681, 712, 713, 714, 715, 716, 717, 718, 719, 720, 721, 722, 708, 709, 710, 711, 723, 724, 725, 737, 730, 731] (by decide +kernel) (by decide +kernel)) (goodIn_sub (fun _ h => List.mem_append_left _ (List.mem_append_left _ (List.mem_append_right _ h))) (by decide +kernel))) (goodIn_sub (fun _ h => List.mem_append_left _ (List.mem_append_right _ h)) (by decide +kernel))) (goodIn_sub (fun _ h => List.mem_append_right _ h) (by decide +kernel))
set_option maxRecDepth 20000 in
theorem gL_law_L_send : GoodIn wsL_law (va_wsS RL 70 yL_send wsL_send) := goodIn_app (goodIn_of _ (by decide +kernel)) ggL_law_L_send
set_option maxRecDepth 20000 in
theorem ggL_law_X8_send : GoodIn wsL_law wsX8_send := goodIn_r _ [278, 179, 155, 153, 160, 178, 159, 164, 163, 165, 166, 167, 168, 169, 279, 280, 281, 5, 282, 151, 152, 200, 201, 202, 283, 284, 285, 203, 204, 205, 206, 207, 286, 287, 288, 289, 154, 682, 683, 684, 685, 686, 687, 688, 689, 690, 691, 692, 693, 694, 695, 696, 697, 698, 699, 700, 701, 702, 703, 704, 705, 706, 707] (by decide +kernel) (by decide +kernel)
set_option maxRecDepth 20000 in
theorem gL_law_X8_send : GoodIn wsL_law (wsV RL 72 RX8 yX8_send wsX8_send) := goodIn_app (goodIn_of _ (by decide +kernel)) ggL_law_X8_send
set_option maxRecDepth 20000 in
theorem ggL_law_L_run : GoodIn wsL_law wsL_run := goodIn_ca (goodIn_r _ [292, 185, 293, 294, 295, 2, 296, 190, 191, 20, 297, 298, 299, 300, 28, 108, 301, 16, 43, 302, 303, 304, 27, 305, 139, 83, 82, 306, 307, 308, 309, 245, 246, 39, 247, 55, 310, 265, 266, 267, 268, 269, 116, 117, 118, 311, 192, 193, 194, 15, 195, 113, 114, 312, 313, 314, 315, 42, 24, 146, 131, 132, 133, 316, 317, 318, 23, 319, 76, 75, 244, 320, 321, 322, 19, 323, 65, 69, 62, 64, 324, 325, 326, 327, 328, 48, 49, 329, 330, 331, 332, 333, 334, 335, 336, 337, 40, 338, 339, 340, 341, 237, 238, 239, 342, 343, 344, 345, 346, 347, 348, 349, 350, 41, 351, 352, 353, 354, 32, 355, 356, 357, 358, 263, 264, 359, 360, 361, 362, 138, 363, 364, 365, 366, 124, 257, 367, 368, 369, 31, 370, 89, 371, 372, 373, 374, 375, 376, 377, 252, 274, 378, 379, 380, 381, 258, 259, 260, 261, 262, 241, 242, 243, 129, 382, 383, 384, 385, 66, 67, 386, 387, 388, 389, 390, 391, 392, 393, 394, 670, 671, 672, 673, 674, 675, 676, 677, 678, 679, 680, 681, 712, 713, 714, 715, 716, 717, 718, 719, 720, 721, 722, 726, 727, 728, 729, 737, 708, 709, 710, 711, 723, 724, 725, 730, 731] (by decide +kernel) (by decide +kernel)) (goodIn_sub (fun _ h => List.mem_append_left _ (List.mem_append_left _ (List.mem_append_right _ h))) (by decide +kernel))
set_option maxRecDepth 20000 in
theorem gL_law_L_run : GoodIn wsL_law (va_wsS RL 73 yL_run wsL_run) := goodIn_app (goodIn_of _ (by decide +kernel)) ggL_law_L_run
set_option maxRecDepth 20000 in
theorem ggL_law_X8_run : GoodIn wsL_law wsX8_run := goodIn_r _ [398, 180, 200, 201, 5, 202, 203, 204, 205, 206, 207, 399, 400, 401, 402, 151, 152, 170, 165, 167, 168, 164, 159, 169, 178, 403, 404, 405, 406, 156, 157, 407, 408, 409, 410, 411, 412, 413, 414, 158, 155, 154, 415, 416, 417, 418, 163, 166, 419, 420, 421, 422, 162, 423, 424, 425, 426, 427, 428, 429, 177, 430, 431, 432, 433, 283, 284, 285, 286, 287, 288, 289, 434, 435, 436, 437, 682, 683, 684, 685, 686, 687, 688, 689, 690, 691, 692, 693, 694, 695, 696, 697, 698, 699, 700, 701, 702, 703, 704, 705, 706, 707] (by decide +kernel) (by decide +kernel)
set_option maxRecDepth 20000 in
theorem gL_law_X8_run : GoodIn wsL_law (wsV RL 76 RX8 yX8_run wsX8_run) := goodIn_app (goodIn_of _ (by decide +kernel)) ggL_law_X8_run
set_option maxRecDepth 20000 in
theorem ggL_law_L_pause : GoodIn wsL_law wsL_pause := goodIn_ca (goodIn_r _ [440, 215, 441, 442, 443, 2, 444, 40, 223, 224, 225, 226, 227, 228, 16, 229, 230, 231, 15, 232, 233, 193, 194, 195, 113, 114, 333, 245, 246, 39, 247, 55, 346, 116, 117, 118, 670, 671, 672, 673, 674, 675, 676, 677, 678, 679, 680, 681, 708, 709, 710, 711, 737] (by decide +kernel) (by decide +kernel)) (goodIn_sub (fun _ h => List.mem_append_right _ h) (by decide +kernel))
set_option maxRecDepth 20000 in
theorem gL_law_L_pause : GoodIn wsL_law (va_wsS RL 77 yL_pause wsL_pause) := goodIn_app (goodIn_of _ (by decide +kernel)) ggL_law_L_pause
set_option maxRecDepth 20000 in
theorem ggL_law_X8_pause : GoodIn wsL_law wsX8_pause := goodIn_r _ [448, 162, 279, 280, 281, 5, 282, 151, 152, 203, 204, 205, 206, 207, 682, 683, 684, 685, 686, 687, 688, 689, 690, 691, 692, 693, 694, 695, 696, 697, 698, 699, 700, 701, 702, 703, 704, 705, 706, 707] (by decide +kernel) (by decide +kernel)
set_option maxRecDepth 20000 in
theorem gL_law_X8_pause : GoodIn wsL_law (wsV RL 80 RX8 yX8_pause wsX8_pause) := goodIn_app (goodIn_of _ (by decide +kernel)) ggL_law_X8_pause
set_option maxRecDepth 20000 in
theorem ggL_law_L_lose : GoodIn wsL_law wsL_lose := goodIn_ca (goodIn_ca (goodIn_ca (goodIn_r _ [451, 215, 185, 216, 452, 453, 454, 2, 455, 221, 222, 28, 456, 457, 458, 459, 227, 228, 16, 223, 224, 225, 226, 229, 230, 231, 15, 232, 233, 193, 194, 195, 113, 114, 338, 339, 340, 341, 48, 49, 329, 245, 246, 39, 247, 55, 234, 235, 236, 190, 191, 460, 461, 462, 463, 237, 238, 239, 342, 343, 344, 27, 345, 82, 309, 378, 379, 380, 381, 310, 265, 266, 267, 268, 269, 116, 117, 118, 670, 671, 672, 673, 674, 675, 676, 677, 678, 679, 680, 681, 708, 709, 710, 711, 737, 726, 727, 728, 729] (by decide +kernel) (by decide +kernel)) (goodIn_sub (fun _ h => List.mem_append_left _ (List.mem_append_right _ h)) (by decide +kernel))) (goodIn_sub (fun _ h => List.mem_append_right _ h) (by decide +kernel))) (goodIn_sub (fun _ h => List.mem_append_left _ (List.mem_append_left _ (List.mem_append_right _ h))) (by decide +kernel))
set_option maxRecDepth 20000 in
theorem gL_law_L_lose : GoodIn wsL_law (va_wsS RL 81 yL_lose wsL_lose) := goodIn_app (goodIn_of _ (by decide +kernel)) ggL_law_L_lose
set_option maxRecDepth 20000 in
theorem ggL_law_X8_lose : GoodIn wsL_law wsX8_lose := goodIn_r _ [467, 156, 468, 469, 470, 5, 471, 279, 280, 281, 282, 151, 152, 200, 201, 202, 407, 408, 409, 410, 423, 424, 425, 203, 204, 205, 206, 207, 682, 683, 684, 685, 686, 687, 688, 689, 690, 691, 692, 693, 694, 695, 696, 697, 698, 699, 700, 701, 702, 703, 704, 705, 706, 707] (by decide +kernel) (by decide +kernel)
set_option maxRecDepth 20000 in
theorem gL_law_X8_lose : GoodIn wsL_law (wsV RL 84 RX8 yX8_lose wsX8_lose) := goodIn_app (goodIn_of _ (by decide +kernel)) ggL_law_X8_lose
set_option maxRecDepth 20000 in
theorem ggL_law_X7_recover : GoodIn wsL_law wsX7_recover := goodIn_r _ [475, 16, 28, 24, 192, 193, 194, 15, 195, 113, 114, 476, 477, 478, 23, 479, 129, 76, 244, 245, 246, 39, 247, 55, 480, 481, 482, 27, 483, 83, 82, 306, 307, 308, 309, 311, 116, 117, 118, 670, 671, 672, 673, 674, 675, 676, 677, 678, 679, 680, 681, 708, 709, 710, 711, 723, 724, 725, 737, 726, 727, 728, 729] (by decide +kernel) (by decide +kernel)
set_option maxRecDepth 20000 in
theorem gL_law_X7_recover : GoodIn wsL_law (wsV RL 85 RX7 yX7_recover wsX7_recover) := goodIn_app (goodIn_of _ (by decide +kernel)) ggL_law_X7_recover
set_option maxRecDepth 20000 in
theorem ggL_law_X8_recover : GoodIn wsL_law wsX8_recover := goodIn_r _ [487, 207, 151, 152, 153, 155, 157, 156, 407, 408, 409, 5, 410, 283, 284, 285, 682, 683, 684, 685, 686, 687, 688, 689, 690, 691, 692, 693, 694, 695, 696, 697, 698, 699, 700, 701, 702, 703, 704, 705, 706, 707] (by decide +kernel) (by decide +kernel)
set_option maxRecDepth 20000 in
theorem gL_law_X8_recover : GoodIn wsL_law (wsV RL 88 RX8 yX8_recover wsX8_recover) := goodIn_app (goodIn_of _ (by decide +kernel)) ggL_law_X8_recover
set_option maxRecDepth 20000 in
theorem ggL_law_X7_tick : GoodIn wsL_law wsX7_tick := goodIn_r _ [491, 108, 670, 671, 672, 673, 674, 675, 676, 677, 678, 679, 680, 681] (by decide +kernel) (by decide +kernel)
set_option maxRecDepth 20000 in
theorem gL_law_X7_tick : GoodIn wsL_law (wsV RL 89 RX7 yX7_tick wsX7_tick) := goodIn_app (goodIn_of _ (by decide +kernel)) ggL_law_X7_tick
set_option maxRecDepth 20000 in
theorem ggL_law_X8_tick : GoodIn wsL_law wsX8_tick := goodIn_r _ [495, 207, 178, 682, 683, 684, 685, 686, 687, 688, 689, 690, 691, 692, 693, 694, 695, 696, 697, 698, 699, 700, 701, 702, 703, 704, 705, 706, 707] (by decide +kernel) (by decide +kernel)
set_option maxRecDepth 20000 in
theorem gL_law_X8_tick : GoodIn wsL_law (wsV RL 92 RX8 yX8_tick wsX8_tick) := goodIn_app (goodIn_of _ (by decide +kernel)) ggL_law_X8_tick
set_option maxRecDepth 20000 in
theorem ggL_law_X7_packets : GoodIn wsL_law wsX7_packets := goodIn_r _ [499, 20, 670, 671, 672, 673, 674, 675, 676, 677, 678, 679, 680, 681, 712, 713, 714, 715, 716, 717, 718, 719, 720, 721, 722] (by decide +kernel) (by decide +kernel)
set_option maxRecDepth 20000 in
theorem gL_law_X7_packets : GoodIn wsL_law (wsV RL 93 RX7 yX7_packets wsX7_packets) := goodIn_app (goodIn_of _ (by decide +kernel)) ggL_law_X7_packets
set_option maxRecDepth 20000 in
theorem ggL_law_X8_packets : GoodIn wsL_law wsX8_packets := goodIn_r _ [503, 207, 179, 682, 683, 684, 685, 686, 687, 688, 689, 690, 691, 692, 693, 694, 695, 696, 697, 698, 699, 700, 701, 702, 703, 704, 705, 706, 707] (by decide +kernel) (by decide +kernel)
set_option maxRecDepth 20000 in
theorem gL_law_X8_packets : GoodIn wsL_law (wsV RL 96 RX8 yX8_packets wsX8_packets) := goodIn_app (goodIn_of _ (by decide +kernel)) ggL_law_X8_packets
set_option maxRecDepth 20000 in
theorem ggL_law_X7_arrived : GoodIn wsL_law wsX7_arrived := goodIn_r _ [507, 20, 670, 671, 672, 673, 674, 675, 676, 677, 678, 679, 680, 681, 712, 713, 714, 715, 716, 717, 718, 719, 720, 721, 722] (by decide +kernel) (by decide +kernel)
set_option maxRecDepth 20000 in
theorem gL_law_X7_arrived : GoodIn wsL_law (wsV RL 97 RX7 yX7_arrived wsX7_arrived) := goodIn_app (goodIn_of _ (by decide +kernel)) ggL_law_X7_arrived
set_option maxRecDepth 20000 in
theorem ggL_law_X8_arrived : GoodIn wsL_law wsX8_arrived := goodIn_r _ [511, 207, 180, 682, 683, 684, 685, 686, 687, 688, 689, 690, 691, 692, 693, 694, 695, 696, 697, 698, 699, 700, 701, 702, 703, 704, 705, 706, 707] (by decide +kernel) (by decide +kernel)
set_option maxRecDepth 20000 in
theorem gL_law_X8_arrived : GoodIn wsL_law (wsV RL 100 RX8 yX8_arrived wsX8_arrived) := goodIn_app (goodIn_of _ (by decide +kernel)) ggL_law_X8_arrived
set_option maxRecDepth 20000 in
theorem ggL_law_L_credits : GoodIn wsL_law wsL_credits := goodIn_ca (goodIn_ca (goodIn_r _ [514, 215, 185, 515, 516, 517, 2, 518, 28, 456, 457, 458, 459, 227, 228, 16, 223, 224, 225, 226, 229, 230, 231, 15, 232, 233, 193, 194, 195, 113, 114, 338, 339, 340, 341, 48, 49, 329, 245, 246, 39, 247, 55, 234, 235, 236, 190, 191, 460, 461, 462, 463, 237, 238, 239, 342, 343, 344, 27, 345, 82, 309, 670, 671, 672, 673, 674, 675, 676, 677, 678, 679, 680, 681, 708, 709, 710, 711, 737, 726, 727, 728, 729] (by decide +kernel) (by decide +kernel)) (goodIn_sub (fun _ h => List.mem_append_right _ h) (by decide +kernel))) (goodIn_sub (fun _ h => List.mem_append_left _ (List.mem_append_left _ (List.mem_append_right _ h))) (by decide +kernel))
set_option maxRecDepth 20000 in
theorem gL_law_L_credits : GoodIn wsL_law (va_wsS RL 101 yL_credits wsL_credits) := goodIn_app (goodIn_of _ (by decide +kernel)) ggL_law_L_credits
set_option maxRecDepth 20000 in
theorem ggL_law_X8_credits : GoodIn wsL_law wsX8_credits := goodIn_r _ [522, 156, 468, 469, 470, 5, 471, 279, 280, 281, 282, 151, 152, 200, 201, 202, 407, 408, 409, 410, 203, 204, 205, 206, 207, 423, 424, 425, 682, 683, 684, 685, 686, 687, 688, 689, 690, 691, 692, 693, 694, 695, 696, 697, 698, 699, 700, 701, 702, 703, 704, 705, 706, 707] (by decide +kernel) (by decide +kernel)
set_option maxRecDepth 20000 in
theorem gL_law_X8_credits : GoodIn wsL_law (wsV RL 103 RX8 yX8_credits wsX8_credits) := goodIn_app (goodIn_of _ (by decide +kernel)) ggL_law_X8_credits
set_option maxRecDepth 20000 in
theorem ggL_law_L_inBuffer : GoodIn wsL_law wsL_inBuffer := goodIn_ca (goodIn_ca (goodIn_r _ [525, 215, 185, 526, 527, 528, 2, 529, 190, 191, 24, 223, 224, 225, 226, 227, 228, 16, 229, 230, 231, 15, 232, 233, 193, 194, 195, 113, 114, 234, 235, 236, 237, 238, 239, 530, 531, 532, 23, 533, 76, 244, 245, 246, 39, 247, 55, 670, 671, 672, 673, 674, 675, 676, 677, 678, 679, 680, 681, 708, 709, 710, 711, 723, 724, 725, 737] (by decide +kernel) (by decide +kernel)) (goodIn_sub (fun _ h => List.mem_append_left _ (List.mem_append_left _ (List.mem_append_right _ h))) (by decide +kernel))) (goodIn_sub (fun _ h => List.mem_append_right _ h) (by decide +kernel))
set_option maxRecDepth 20000 in
theorem gL_law_L_inBuffer : GoodIn wsL_law (va_wsS RL 104 yL_inBuffer wsL_inBuffer) := goodIn_app (goodIn_of _ (by decide +kernel)) ggL_law_L_inBuffer
set_option maxRecDepth 20000 in
theorem ggL_law_X8_inBuffer : GoodIn wsL_law wsX8_inBuffer := goodIn_r _ [537, 155, 279, 280, 281, 5, 282, 151, 152, 200, 201, 202, 203, 204, 205, 206, 207, 283, 284, 285, 682, 683, 684, 685, 686, 687, 688, 689, 690, 691, 692, 693, 694, 695, 696, 697, 698, 699, 700, 701, 702, 703, 704, 705, 706, 707] (by decide +kernel) (by decide +kernel)
set_option maxRecDepth 20000 in
theorem gL_law_X8_inBuffer : GoodIn wsL_law (wsV RL 106 RX8 yX8_inBuffer wsX8_inBuffer) := goodIn_app (goodIn_of _ (by decide +kernel)) ggL_law_X8_inBuffer
set_option maxRecDepth 20000 in
theorem ggL_law_L_gap : GoodIn wsL_law wsL_gap := goodIn_ca (goodIn_r _ [540, 215, 541, 542, 543, 2, 544, 32, 223, 224, 225, 226, 227, 228, 16, 229, 230, 231, 15, 232, 233, 193, 194, 195, 113, 114, 545, 546, 547, 31, 548, 89, 252, 245, 246, 39, 247, 55, 670, 671, 672, 673, 674, 675, 676, 677, 678, 679, 680, 681, 708, 709, 710, 711, 730, 731, 737] (by decide +kernel) (by decide +kernel)) (goodIn_sub (fun _ h => List.mem_append_right _ h) (by decide +kernel))
set_option maxRecDepth 20000 in
theorem gL_law_L_gap : GoodIn wsL_law (va_wsS RL 107 yL_gap wsL_gap) := goodIn_app (goodIn_of _ (by decide +kernel)) ggL_law_L_gap
set_option maxRecDepth 20000 in
theorem ggL_law_X8_gap : GoodIn wsL_law wsX8_gap := goodIn_r _ [552, 159, 279, 280, 281, 5, 282, 151, 152, 203, 204, 205, 206, 207, 682, 683, 684, 685, 686, 687, 688, 689, 690, 691, 692, 693, 694, 695, 696, 697, 698, 699, 700, 701, 702, 703, 704, 705, 706, 707] (by decide +kernel) (by decide +kernel)
set_option maxRecDepth 20000 in
theorem gL_law_X8_gap : GoodIn wsL_law (wsV RL 109 RX8 yX8_gap wsX8_gap) := goodIn_app (goodIn_of _ (by decide +kernel)) ggL_law_X8_gap
set_option maxRecDepth 20000 in
theorem ggL_law_L_placeOf : GoodIn wsL_law wsL_placeOf := goodIn_ca (goodIn_r _ [555, 215, 556, 557, 558, 2, 559, 20, 560, 561, 562, 563, 227, 228, 333, 245, 246, 39, 247, 55, 670, 671, 672, 673, 674, 675, 676, 677, 678, 679, 680, 681, 712, 713, 714, 715, 716, 717, 718, 719, 720, 721, 722, 737] (by decide +kernel) (by decide +kernel)) (goodIn_sub (fun _ h => List.mem_append_right _ h) (by decide +kernel))
set_option maxRecDepth 20000 in
theorem gL_law_L_placeOf : GoodIn wsL_law (va_wsS RL 110 yL_placeOf wsL_placeOf) := goodIn_app (goodIn_of _ (by decide +kernel)) ggL_law_L_placeOf
set_option maxRecDepth 20000 in
theorem ggL_law_X8_placeOf : GoodIn wsL_law wsX8_placeOf := goodIn_r _ [567, 167, 568, 569, 570, 5, 571, 179, 203, 204, 205, 206, 207, 682, 683, 684, 685, 686, 687, 688, 689, 690, 691, 692, 693, 694, 695, 696, 697, 698, 699, 700, 701, 702, 703, 704, 705, 706, 707] (by decide +kernel) (by decide +kernel)
set_option maxRecDepth 20000 in
theorem gL_law_X8_placeOf : GoodIn wsL_law (wsV RL 112 RX8 yX8_placeOf wsX8_placeOf) := goodIn_app (goodIn_of _ (by decide +kernel)) ggL_law_X8_placeOf
set_option maxRecDepth 20000 in
theorem ggL_law_L_hops : GoodIn wsL_law wsL_hops := goodIn_ca (goodIn_r _ [574, 215, 575, 576, 577, 2, 578, 20, 560, 561, 562, 563, 227, 228, 333, 245, 246, 39, 247, 55, 670, 671, 672, 673, 674, 675, 676, 677, 678, 679, 680, 681, 712, 713, 714, 715, 716, 717, 718, 719, 720, 721, 722, 737] (by decide +kernel) (by decide +kernel)) (goodIn_sub (fun _ h => List.mem_append_right _ h) (by decide +kernel))
set_option maxRecDepth 20000 in
theorem gL_law_L_hops : GoodIn wsL_law (va_wsS RL 113 yL_hops wsL_hops) := goodIn_app (goodIn_of _ (by decide +kernel)) ggL_law_L_hops
set_option maxRecDepth 20000 in
theorem ggL_law_X8_hops : GoodIn wsL_law wsX8_hops := goodIn_r _ [582, 168, 568, 569, 570, 5, 571, 179, 203, 204, 205, 206, 207, 682, 683, 684, 685, 686, 687, 688, 689, 690, 691, 692, 693, 694, 695, 696, 697, 698, 699, 700, 701, 702, 703, 704, 705, 706, 707] (by decide +kernel) (by decide +kernel)
set_option maxRecDepth 20000 in
theorem gL_law_X8_hops : GoodIn wsL_law (wsV RL 115 RX8 yX8_hops wsX8_hops) := goodIn_app (goodIn_of _ (by decide +kernel)) ggL_law_X8_hops
set_option maxRecDepth 20000 in
theorem ggL_law_L_isMarked : GoodIn wsL_law wsL_isMarked := goodIn_ca (goodIn_r _ [585, 215, 586, 587, 588, 2, 589, 20, 560, 561, 562, 563, 227, 228, 333, 245, 246, 39, 247, 55, 670, 671, 672, 673, 674, 675, 676, 677, 678, 679, 680, 681, 712, 713, 714, 715, 716, 717, 718, 719, 720, 721, 722, 737] (by decide +kernel) (by decide +kernel)) (goodIn_sub (fun _ h => List.mem_append_right _ h) (by decide +kernel))
set_option maxRecDepth 20000 in
theorem gL_law_L_isMarked : GoodIn wsL_law (va_wsS RL 116 yL_isMarked wsL_isMarked) := goodIn_app (goodIn_of _ (by decide +kernel)) ggL_law_L_isMarked
set_option maxRecDepth 20000 in
theorem ggL_law_X8_isMarked : GoodIn wsL_law wsX8_isMarked := goodIn_r _ [593, 169, 568, 569, 570, 5, 571, 179, 203, 204, 205, 206, 207, 682, 683, 684, 685, 686, 687, 688, 689, 690, 691, 692, 693, 694, 695, 696, 697, 698, 699, 700, 701, 702, 703, 704, 705, 706, 707] (by decide +kernel) (by decide +kernel)
set_option maxRecDepth 20000 in
theorem gL_law_X8_isMarked : GoodIn wsL_law (wsV RL 118 RX8 yX8_isMarked wsX8_isMarked) := goodIn_app (goodIn_of _ (by decide +kernel)) ggL_law_X8_isMarked
set_option maxRecDepth 20000 in
theorem ggL_law_L_wants : GoodIn wsL_law wsL_wants := goodIn_ca (goodIn_r _ [596, 215, 597, 598, 599, 2, 600, 20, 560, 561, 562, 563, 227, 228, 320, 321, 322, 19, 323, 65, 69, 62, 64, 324, 245, 246, 39, 247, 55, 325, 326, 327, 15, 328, 48, 49, 329, 330, 331, 332, 670, 671, 672, 673, 674, 675, 676, 677, 678, 679, 680, 681, 712, 713, 714, 715, 716, 717, 718, 719, 720, 721, 722, 737, 708, 709, 710, 711] (by decide +kernel) (by decide +kernel)) (goodIn_sub (fun _ h => List.mem_append_right _ h) (by decide +kernel))
set_option maxRecDepth 20000 in
theorem gL_law_L_wants : GoodIn wsL_law (va_wsS RL 119 yL_wants wsL_wants) := goodIn_app (goodIn_of _ (by decide +kernel)) ggL_law_L_wants
set_option maxRecDepth 20000 in
theorem ggL_law_X8_wants : GoodIn wsL_law wsX8_wants := goodIn_r _ [604, 167, 568, 569, 570, 5, 571, 179, 203, 204, 205, 206, 207, 415, 416, 417, 418, 163, 151, 166, 682, 683, 684, 685, 686, 687, 688, 689, 690, 691, 692, 693, 694, 695, 696, 697, 698, 699, 700, 701, 702, 703, 704, 705, 706, 707] (by decide +kernel) (by decide +kernel)
set_option maxRecDepth 20000 in
theorem gL_law_X8_wants : GoodIn wsL_law (wsV RL 121 RX8 yX8_wants wsX8_wants) := goodIn_app (goodIn_of _ (by decide +kernel)) ggL_law_X8_wants
set_option maxRecDepth 20000 in
theorem ggL_law_X7_circle : GoodIn wsL_law wsX7_circle := goodIn_r _ [608, 36, 609, 610, 611, 35, 612, 99, 97, 613, 193, 194, 15, 195, 113, 114, 614, 615, 616, 617, 101, 100, 618, 317, 318, 23, 319, 76, 75, 244, 245, 246, 39, 247, 55, 619, 620, 321, 322, 19, 323, 65, 69, 62, 64, 324, 325, 326, 327, 328, 48, 49, 329, 330, 331, 332, 621, 622, 623, 624, 625, 339, 340, 341, 238, 2, 239, 626, 241, 242, 243, 129, 627, 116, 117, 118, 628, 629, 630, 631, 670, 671, 672, 673, 674, 675, 676, 677, 678, 679, 680, 681, 732, 733, 734, 735, 736, 708, 709, 710, 711, 712, 713, 714, 715, 716, 717, 718, 719, 720, 721, 722, 723, 724, 725, 737] (by decide +kernel) (by decide +kernel)
set_option maxRecDepth 20000 in
theorem gL_law_X7_circle : GoodIn wsL_law (wsV RL 122 RX7 yX7_circle wsX7_circle) := goodIn_app (goodIn_of _ (by decide +kernel)) ggL_law_X7_circle
set_option maxRecDepth 20000 in
theorem ggL_law_X8_circle : GoodIn wsL_law wsX8_circle := goodIn_r _ [635, 207, 151, 152, 636, 637, 638, 5, 639, 155, 154, 153, 415, 416, 417, 418, 163, 166, 407, 408, 409, 410, 283, 284, 285, 682, 683, 684, 685, 686, 687, 688, 689, 690, 691, 692, 693, 694, 695, 696, 697, 698, 699, 700, 701, 702, 703, 704, 705, 706, 707] (by decide +kernel) (by decide +kernel)
set_option maxRecDepth 20000 in
theorem gL_law_X8_circle : GoodIn wsL_law (wsV RL 125 RX8 yX8_circle wsX8_circle) := goodIn_app (goodIn_of _ (by decide +kernel)) ggL_law_X8_circle
set_option maxRecDepth 20000 in
theorem ggL_law_X7_mayCircle : GoodIn wsL_law wsX7_mayCircle := goodIn_r _ [643, 36, 644, 645, 646, 35, 647, 98, 100, 648, 131, 132, 39, 133, 55, 619, 245, 246, 247, 649, 650, 651, 652, 99, 238, 2, 239, 653, 326, 327, 15, 328, 48, 49, 329, 330, 331, 332, 621, 622, 623, 624, 625, 339, 340, 341, 113, 114, 627, 116, 117, 118, 654, 655, 656, 657, 613, 193, 194, 195, 658, 659, 660, 661, 670, 671, 672, 673, 674, 675, 676, 677, 678, 679, 680, 681, 732, 733, 734, 735, 736, 712, 713, 714, 715, 716, 717, 718, 719, 720, 721, 722, 737, 708, 709, 710, 711] (by decide +kernel) (by decide +kernel)
set_option maxRecDepth 20000 in
theorem gL_law_X7_mayCircle : GoodIn wsL_law (wsV RL 126 RX7 yX7_mayCircle wsX7_mayCircle) := goodIn_app (goodIn_of _ (by decide +kernel)) ggL_law_X7_mayCircle
set_option maxRecDepth 20000 in
theorem ggL_law_X8_mayCircle : GoodIn wsL_law wsX8_mayCircle := goodIn_r _ [665, 207, 151, 152, 172, 171, 666, 667, 668, 5, 669, 155, 154, 165, 415, 416, 417, 418, 163, 166, 407, 408, 409, 410, 283, 284, 285, 682, 683, 684, 685, 686, 687, 688, 689, 690, 691, 692, 693, 694, 695, 696, 697, 698, 699, 700, 701, 702, 703, 704, 705, 706, 707] (by decide +kernel) (by decide +kernel)
set_option maxRecDepth 20000 in
theorem gL_law_X8_mayCircle : GoodIn wsL_law (wsV RL 130 RX8 yX8_mayCircle wsX8_mayCircle) := goodIn_app (goodIn_of _ (by decide +kernel)) ggL_law_X8_mayCircle
theorem dL_law_0 : decode cL_law 0 = .ok (.new 8, 3) := by decide +kernel
theorem dL_law_3 : decode cL_law 3 = .ok (.dup, 1) := by decide +kernel
theorem dL_law_4 : decode cL_law 4 = .ok (.invokespecial 56, 3) := by decide +kernel
theorem dL_law_7 : decode cL_law 7 = .ok (.astore_n 1, 1) := by decide +kernel
theorem dL_law_8 : decode cL_law 8 = .ok (.new 57, 3) := by decide +kernel
theorem dL_law_11 : decode cL_law 11 = .ok (.dup, 1) := by decide +kernel
theorem dL_law_12 : decode cL_law 12 = .ok (.invokespecial 59, 3) := by decide +kernel
theorem dL_law_15 : decode cL_law 15 = .ok (.astore_n 2, 1) := by decide +kernel
theorem dL_law_16 : decode cL_law 16 = .ok (.iconst 1, 1) := by decide +kernel
theorem dL_law_17 : decode cL_law 17 = .ok (.newarray .long, 2) := by decide +kernel
theorem dL_law_19 : decode cL_law 19 = .ok (.astore_n 3, 1) := by decide +kernel
theorem dL_law_20 : decode cL_law 20 = .ok (.iconst 0, 1) := by decide +kernel
theorem dL_law_21 : decode cL_law 21 = .ok (.istore 4, 2) := by decide +kernel
theorem dL_law_23 : decode cL_law 23 = .ok (.iload 4, 2) := by decide +kernel
theorem dL_law_25 : decode cL_law 25 = .ok (.aload_n 0, 1) := by decide +kernel
theorem dL_law_26 : decode cL_law 26 = .ok (.arraylength, 1) := by decide +kernel
theorem dL_law_27 : decode cL_law 27 = .ok (.iconst 5, 1) := by decide +kernel
theorem dL_law_28 : decode cL_law 28 = .ok (.isub, 1) := by decide +kernel
theorem dL_law_29 : decode cL_law 29 = .ok (.if_icmp .gt 1037, 3) := by decide +kernel
theorem dL_law_32 : decode cL_law 32 = .ok (.aload_n 0, 1) := by decide +kernel
theorem dL_law_33 : decode cL_law 33 = .ok (.iload 4, 2) := by decide +kernel
theorem dL_law_35 : decode cL_law 35 = .ok (.iaload, 1) := by decide +kernel
theorem dL_law_36 : decode cL_law 36 = .ok (.bipush 31, 2) := by decide +kernel
theorem dL_law_38 : decode cL_law 38 = .ok (.iand, 1) := by decide +kernel
theorem dL_law_39 : decode cL_law 39 = .ok (.tableswitch 1021 0 17 #[85, 177, 269, 325, 416, 496, 509, 522, 535, 548, 628, 708, 764, 820, 876, 939, 995, 1008], 85) := by decide +kernel
theorem dL_law_124 : decode cL_law 124 = .ok (.aload_n 1, 1) := by decide +kernel
theorem dL_law_125 : decode cL_law 125 = .ok (.aload_n 0, 1) := by decide +kernel
theorem dL_law_126 : decode cL_law 126 = .ok (.iload 4, 2) := by decide +kernel
theorem dL_law_128 : decode cL_law 128 = .ok (.iconst 1, 1) := by decide +kernel
theorem dL_law_129 : decode cL_law 129 = .ok (.iadd, 1) := by decide +kernel
theorem dL_law_130 : decode cL_law 130 = .ok (.iaload, 1) := by decide +kernel
theorem dL_law_131 : decode cL_law 131 = .ok (.aload_n 0, 1) := by decide +kernel
theorem dL_law_132 : decode cL_law 132 = .ok (.iload 4, 2) := by decide +kernel
theorem dL_law_134 : decode cL_law 134 = .ok (.iconst 2, 1) := by decide +kernel
theorem dL_law_135 : decode cL_law 135 = .ok (.iadd, 1) := by decide +kernel
theorem dL_law_136 : decode cL_law 136 = .ok (.iaload, 1) := by decide +kernel
theorem dL_law_137 : decode cL_law 137 = .ok (.aload_n 0, 1) := by decide +kernel
theorem dL_law_138 : decode cL_law 138 = .ok (.iload 4, 2) := by decide +kernel
theorem dL_law_140 : decode cL_law 140 = .ok (.iconst 3, 1) := by decide +kernel
theorem dL_law_141 : decode cL_law 141 = .ok (.iadd, 1) := by decide +kernel
theorem dL_law_142 : decode cL_law 142 = .ok (.iaload, 1) := by decide +kernel
theorem dL_law_143 : decode cL_law 143 = .ok (.aload_n 0, 1) := by decide +kernel
theorem dL_law_144 : decode cL_law 144 = .ok (.iload 4, 2) := by decide +kernel
theorem dL_law_146 : decode cL_law 146 = .ok (.iconst 4, 1) := by decide +kernel
theorem dL_law_147 : decode cL_law 147 = .ok (.iadd, 1) := by decide +kernel
theorem dL_law_148 : decode cL_law 148 = .ok (.iaload, 1) := by decide +kernel
theorem dL_law_149 : decode cL_law 149 = .ok (.aload_n 3, 1) := by decide +kernel
theorem dL_law_150 : decode cL_law 150 = .ok (.invokestatic 60, 3) := by decide +kernel
theorem dL_law_153 : decode cL_law 153 = .ok (.istore 5, 2) := by decide +kernel
theorem dL_law_155 : decode cL_law 155 = .ok (.aload_n 2, 1) := by decide +kernel
theorem dL_law_156 : decode cL_law 156 = .ok (.aload_n 0, 1) := by decide +kernel
theorem dL_law_157 : decode cL_law 157 = .ok (.iload 4, 2) := by decide +kernel
theorem dL_law_159 : decode cL_law 159 = .ok (.iconst 1, 1) := by decide +kernel
theorem dL_law_160 : decode cL_law 160 = .ok (.iadd, 1) := by decide +kernel
theorem dL_law_161 : decode cL_law 161 = .ok (.iaload, 1) := by decide +kernel
theorem dL_law_162 : decode cL_law 162 = .ok (.aload_n 0, 1) := by decide +kernel
theorem dL_law_163 : decode cL_law 163 = .ok (.iload 4, 2) := by decide +kernel
theorem dL_law_165 : decode cL_law 165 = .ok (.iconst 2, 1) := by decide +kernel
theorem dL_law_166 : decode cL_law 166 = .ok (.iadd, 1) := by decide +kernel
theorem dL_law_167 : decode cL_law 167 = .ok (.iaload, 1) := by decide +kernel
theorem dL_law_168 : decode cL_law 168 = .ok (.aload_n 0, 1) := by decide +kernel
theorem dL_law_169 : decode cL_law 169 = .ok (.iload 4, 2) := by decide +kernel
theorem dL_law_171 : decode cL_law 171 = .ok (.iconst 3, 1) := by decide +kernel
theorem dL_law_172 : decode cL_law 172 = .ok (.iadd, 1) := by decide +kernel
theorem dL_law_173 : decode cL_law 173 = .ok (.iaload, 1) := by decide +kernel
theorem dL_law_174 : decode cL_law 174 = .ok (.aload_n 0, 1) := by decide +kernel
theorem dL_law_175 : decode cL_law 175 = .ok (.iload 4, 2) := by decide +kernel
theorem dL_law_177 : decode cL_law 177 = .ok (.iconst 4, 1) := by decide +kernel
theorem dL_law_178 : decode cL_law 178 = .ok (.iadd, 1) := by decide +kernel
theorem dL_law_179 : decode cL_law 179 = .ok (.iaload, 1) := by decide +kernel
theorem dL_law_180 : decode cL_law 180 = .ok (.invokevirtual 65, 3) := by decide +kernel
theorem dL_law_183 : decode cL_law 183 = .ok (.istore 6, 2) := by decide +kernel
theorem dL_law_185 : decode cL_law 185 = .ok (.aload_n 2, 1) := by decide +kernel
theorem dL_law_186 : decode cL_law 186 = .ok (.invokevirtual 66, 3) := by decide +kernel
theorem dL_law_189 : decode cL_law 189 = .ok (.iload 5, 2) := by decide +kernel
theorem dL_law_191 : decode cL_law 191 = .ok (.if_icmp .eq 5, 3) := by decide +kernel
theorem dL_law_194 : decode cL_law 194 = .ok (.iconst 0, 1) := by decide +kernel
theorem dL_law_195 : decode cL_law 195 = .ok (.ireturn, 1) := by decide +kernel
theorem dL_law_196 : decode cL_law 196 = .ok (.iload 5, 2) := by decide +kernel
theorem dL_law_198 : decode cL_law 198 = .ok (.ifCond .ne 15, 3) := by decide +kernel
theorem dL_law_201 : decode cL_law 201 = .ok (.aload_n 3, 1) := by decide +kernel
theorem dL_law_202 : decode cL_law 202 = .ok (.iconst 0, 1) := by decide +kernel
theorem dL_law_203 : decode cL_law 203 = .ok (.laload, 1) := by decide +kernel
theorem dL_law_204 : decode cL_law 204 = .ok (.iload 6, 2) := by decide +kernel
theorem dL_law_206 : decode cL_law 206 = .ok (.i2l, 1) := by decide +kernel
theorem dL_law_207 : decode cL_law 207 = .ok (.lcmp, 1) := by decide +kernel
theorem dL_law_208 : decode cL_law 208 = .ok (.ifCond .eq 5, 3) := by decide +kernel
theorem dL_law_211 : decode cL_law 211 = .ok (.iconst 0, 1) := by decide +kernel
theorem dL_law_212 : decode cL_law 212 = .ok (.ireturn, 1) := by decide +kernel
theorem dL_law_213 : decode cL_law 213 = .ok (.goto 847, 3) := by decide +kernel
theorem dL_law_216 : decode cL_law 216 = .ok (.aload_n 1, 1) := by decide +kernel
theorem dL_law_217 : decode cL_law 217 = .ok (.aload_n 0, 1) := by decide +kernel
theorem dL_law_218 : decode cL_law 218 = .ok (.iload 4, 2) := by decide +kernel
theorem dL_law_220 : decode cL_law 220 = .ok (.iconst 1, 1) := by decide +kernel
theorem dL_law_221 : decode cL_law 221 = .ok (.iadd, 1) := by decide +kernel
theorem dL_law_222 : decode cL_law 222 = .ok (.iaload, 1) := by decide +kernel
theorem dL_law_223 : decode cL_law 223 = .ok (.aload_n 0, 1) := by decide +kernel
theorem dL_law_224 : decode cL_law 224 = .ok (.iload 4, 2) := by decide +kernel
theorem dL_law_226 : decode cL_law 226 = .ok (.iconst 2, 1) := by decide +kernel
theorem dL_law_227 : decode cL_law 227 = .ok (.iadd, 1) := by decide +kernel
theorem dL_law_228 : decode cL_law 228 = .ok (.iaload, 1) := by decide +kernel
theorem dL_law_229 : decode cL_law 229 = .ok (.aload_n 0, 1) := by decide +kernel
theorem dL_law_230 : decode cL_law 230 = .ok (.iload 4, 2) := by decide +kernel
theorem dL_law_232 : decode cL_law 232 = .ok (.iconst 3, 1) := by decide +kernel
theorem dL_law_233 : decode cL_law 233 = .ok (.iadd, 1) := by decide +kernel
theorem dL_law_234 : decode cL_law 234 = .ok (.iaload, 1) := by decide +kernel
theorem dL_law_235 : decode cL_law 235 = .ok (.aload_n 0, 1) := by decide +kernel
theorem dL_law_236 : decode cL_law 236 = .ok (.iload 4, 2) := by decide +kernel
theorem dL_law_238 : decode cL_law 238 = .ok (.iconst 4, 1) := by decide +kernel
theorem dL_law_239 : decode cL_law 239 = .ok (.iadd, 1) := by decide +kernel
theorem dL_law_240 : decode cL_law 240 = .ok (.iaload, 1) := by decide +kernel
theorem dL_law_241 : decode cL_law 241 = .ok (.aload_n 3, 1) := by decide +kernel
theorem dL_law_242 : decode cL_law 242 = .ok (.invokestatic 70, 3) := by decide +kernel
theorem dL_law_245 : decode cL_law 245 = .ok (.istore 5, 2) := by decide +kernel
theorem dL_law_247 : decode cL_law 247 = .ok (.aload_n 2, 1) := by decide +kernel
theorem dL_law_248 : decode cL_law 248 = .ok (.aload_n 0, 1) := by decide +kernel
theorem dL_law_249 : decode cL_law 249 = .ok (.iload 4, 2) := by decide +kernel
theorem dL_law_251 : decode cL_law 251 = .ok (.iconst 1, 1) := by decide +kernel
theorem dL_law_252 : decode cL_law 252 = .ok (.iadd, 1) := by decide +kernel
theorem dL_law_253 : decode cL_law 253 = .ok (.iaload, 1) := by decide +kernel
theorem dL_law_254 : decode cL_law 254 = .ok (.aload_n 0, 1) := by decide +kernel
theorem dL_law_255 : decode cL_law 255 = .ok (.iload 4, 2) := by decide +kernel
theorem dL_law_257 : decode cL_law 257 = .ok (.iconst 2, 1) := by decide +kernel
theorem dL_law_258 : decode cL_law 258 = .ok (.iadd, 1) := by decide +kernel
theorem dL_law_259 : decode cL_law 259 = .ok (.iaload, 1) := by decide +kernel
theorem dL_law_260 : decode cL_law 260 = .ok (.aload_n 0, 1) := by decide +kernel
theorem dL_law_261 : decode cL_law 261 = .ok (.iload 4, 2) := by decide +kernel
theorem dL_law_263 : decode cL_law 263 = .ok (.iconst 3, 1) := by decide +kernel
theorem dL_law_264 : decode cL_law 264 = .ok (.iadd, 1) := by decide +kernel
theorem dL_law_265 : decode cL_law 265 = .ok (.iaload, 1) := by decide +kernel
theorem dL_law_266 : decode cL_law 266 = .ok (.aload_n 0, 1) := by decide +kernel
theorem dL_law_267 : decode cL_law 267 = .ok (.iload 4, 2) := by decide +kernel
theorem dL_law_269 : decode cL_law 269 = .ok (.iconst 4, 1) := by decide +kernel
theorem dL_law_270 : decode cL_law 270 = .ok (.iadd, 1) := by decide +kernel
theorem dL_law_271 : decode cL_law 271 = .ok (.iaload, 1) := by decide +kernel
theorem dL_law_272 : decode cL_law 272 = .ok (.invokevirtual 72, 3) := by decide +kernel
theorem dL_law_275 : decode cL_law 275 = .ok (.istore 6, 2) := by decide +kernel
theorem dL_law_277 : decode cL_law 277 = .ok (.aload_n 2, 1) := by decide +kernel
theorem dL_law_278 : decode cL_law 278 = .ok (.invokevirtual 66, 3) := by decide +kernel
theorem dL_law_281 : decode cL_law 281 = .ok (.iload 5, 2) := by decide +kernel
theorem dL_law_283 : decode cL_law 283 = .ok (.if_icmp .eq 5, 3) := by decide +kernel
theorem dL_law_286 : decode cL_law 286 = .ok (.iconst 0, 1) := by decide +kernel
theorem dL_law_287 : decode cL_law 287 = .ok (.ireturn, 1) := by decide +kernel
theorem dL_law_288 : decode cL_law 288 = .ok (.iload 5, 2) := by decide +kernel
theorem dL_law_290 : decode cL_law 290 = .ok (.ifCond .ne 15, 3) := by decide +kernel
theorem dL_law_293 : decode cL_law 293 = .ok (.aload_n 3, 1) := by decide +kernel
theorem dL_law_294 : decode cL_law 294 = .ok (.iconst 0, 1) := by decide +kernel
theorem dL_law_295 : decode cL_law 295 = .ok (.laload, 1) := by decide +kernel
theorem dL_law_296 : decode cL_law 296 = .ok (.iload 6, 2) := by decide +kernel
theorem dL_law_298 : decode cL_law 298 = .ok (.i2l, 1) := by decide +kernel
theorem dL_law_299 : decode cL_law 299 = .ok (.lcmp, 1) := by decide +kernel
theorem dL_law_300 : decode cL_law 300 = .ok (.ifCond .eq 5, 3) := by decide +kernel
theorem dL_law_303 : decode cL_law 303 = .ok (.iconst 0, 1) := by decide +kernel
theorem dL_law_304 : decode cL_law 304 = .ok (.ireturn, 1) := by decide +kernel
theorem dL_law_305 : decode cL_law 305 = .ok (.goto 755, 3) := by decide +kernel
theorem dL_law_308 : decode cL_law 308 = .ok (.aload_n 1, 1) := by decide +kernel
theorem dL_law_309 : decode cL_law 309 = .ok (.aload_n 0, 1) := by decide +kernel
theorem dL_law_310 : decode cL_law 310 = .ok (.iload 4, 2) := by decide +kernel
theorem dL_law_312 : decode cL_law 312 = .ok (.iconst 1, 1) := by decide +kernel
theorem dL_law_313 : decode cL_law 313 = .ok (.iadd, 1) := by decide +kernel
theorem dL_law_314 : decode cL_law 314 = .ok (.iaload, 1) := by decide +kernel
theorem dL_law_315 : decode cL_law 315 = .ok (.aload_n 3, 1) := by decide +kernel
theorem dL_law_316 : decode cL_law 316 = .ok (.invokestatic 73, 3) := by decide +kernel
theorem dL_law_319 : decode cL_law 319 = .ok (.istore 5, 2) := by decide +kernel
theorem dL_law_321 : decode cL_law 321 = .ok (.aload_n 2, 1) := by decide +kernel
theorem dL_law_322 : decode cL_law 322 = .ok (.aload_n 0, 1) := by decide +kernel
theorem dL_law_323 : decode cL_law 323 = .ok (.iload 4, 2) := by decide +kernel
theorem dL_law_325 : decode cL_law 325 = .ok (.iconst 1, 1) := by decide +kernel
theorem dL_law_326 : decode cL_law 326 = .ok (.iadd, 1) := by decide +kernel
theorem dL_law_327 : decode cL_law 327 = .ok (.iaload, 1) := by decide +kernel
theorem dL_law_328 : decode cL_law 328 = .ok (.invokevirtual 76, 3) := by decide +kernel
theorem dL_law_331 : decode cL_law 331 = .ok (.istore 6, 2) := by decide +kernel
theorem dL_law_333 : decode cL_law 333 = .ok (.aload_n 2, 1) := by decide +kernel
theorem dL_law_334 : decode cL_law 334 = .ok (.invokevirtual 66, 3) := by decide +kernel
theorem dL_law_337 : decode cL_law 337 = .ok (.iload 5, 2) := by decide +kernel
theorem dL_law_339 : decode cL_law 339 = .ok (.if_icmp .eq 5, 3) := by decide +kernel
theorem dL_law_342 : decode cL_law 342 = .ok (.iconst 0, 1) := by decide +kernel
theorem dL_law_343 : decode cL_law 343 = .ok (.ireturn, 1) := by decide +kernel
theorem dL_law_344 : decode cL_law 344 = .ok (.iload 5, 2) := by decide +kernel
theorem dL_law_346 : decode cL_law 346 = .ok (.ifCond .ne 15, 3) := by decide +kernel
theorem dL_law_349 : decode cL_law 349 = .ok (.aload_n 3, 1) := by decide +kernel
theorem dL_law_350 : decode cL_law 350 = .ok (.iconst 0, 1) := by decide +kernel
theorem dL_law_351 : decode cL_law 351 = .ok (.laload, 1) := by decide +kernel
theorem dL_law_352 : decode cL_law 352 = .ok (.iload 6, 2) := by decide +kernel
theorem dL_law_354 : decode cL_law 354 = .ok (.i2l, 1) := by decide +kernel
theorem dL_law_355 : decode cL_law 355 = .ok (.lcmp, 1) := by decide +kernel
theorem dL_law_356 : decode cL_law 356 = .ok (.ifCond .eq 5, 3) := by decide +kernel
theorem dL_law_359 : decode cL_law 359 = .ok (.iconst 0, 1) := by decide +kernel
theorem dL_law_360 : decode cL_law 360 = .ok (.ireturn, 1) := by decide +kernel
theorem dL_law_361 : decode cL_law 361 = .ok (.goto 699, 3) := by decide +kernel
theorem dL_law_364 : decode cL_law 364 = .ok (.aload_n 1, 1) := by decide +kernel
theorem dL_law_365 : decode cL_law 365 = .ok (.aload_n 0, 1) := by decide +kernel
theorem dL_law_366 : decode cL_law 366 = .ok (.iload 4, 2) := by decide +kernel
theorem dL_law_368 : decode cL_law 368 = .ok (.iconst 1, 1) := by decide +kernel
theorem dL_law_369 : decode cL_law 369 = .ok (.iadd, 1) := by decide +kernel
theorem dL_law_370 : decode cL_law 370 = .ok (.iaload, 1) := by decide +kernel
theorem dL_law_371 : decode cL_law 371 = .ok (.aload_n 0, 1) := by decide +kernel
theorem dL_law_372 : decode cL_law 372 = .ok (.iload 4, 2) := by decide +kernel
theorem dL_law_374 : decode cL_law 374 = .ok (.iconst 2, 1) := by decide +kernel
theorem dL_law_375 : decode cL_law 375 = .ok (.iadd, 1) := by decide +kernel
theorem dL_law_376 : decode cL_law 376 = .ok (.iaload, 1) := by decide +kernel
theorem dL_law_377 : decode cL_law 377 = .ok (.ifCond .eq 7, 3) := by decide +kernel
theorem dL_law_380 : decode cL_law 380 = .ok (.iconst 1, 1) := by decide +kernel
theorem dL_law_381 : decode cL_law 381 = .ok (.goto 4, 3) := by decide +kernel
theorem dL_law_384 : decode cL_law 384 = .ok (.iconst 0, 1) := by decide +kernel
theorem dL_law_385 : decode cL_law 385 = .ok (.aload_n 3, 1) := by decide +kernel
theorem dL_law_386 : decode cL_law 386 = .ok (.invokestatic 77, 3) := by decide +kernel
theorem dL_law_389 : decode cL_law 389 = .ok (.istore 5, 2) := by decide +kernel
theorem dL_law_391 : decode cL_law 391 = .ok (.aload_n 2, 1) := by decide +kernel
theorem dL_law_392 : decode cL_law 392 = .ok (.aload_n 0, 1) := by decide +kernel
theorem dL_law_393 : decode cL_law 393 = .ok (.iload 4, 2) := by decide +kernel
theorem dL_law_395 : decode cL_law 395 = .ok (.iconst 1, 1) := by decide +kernel
theorem dL_law_396 : decode cL_law 396 = .ok (.iadd, 1) := by decide +kernel
theorem dL_law_397 : decode cL_law 397 = .ok (.iaload, 1) := by decide +kernel
theorem dL_law_398 : decode cL_law 398 = .ok (.aload_n 0, 1) := by decide +kernel
theorem dL_law_399 : decode cL_law 399 = .ok (.iload 4, 2) := by decide +kernel
theorem dL_law_401 : decode cL_law 401 = .ok (.iconst 2, 1) := by decide +kernel
theorem dL_law_402 : decode cL_law 402 = .ok (.iadd, 1) := by decide +kernel
theorem dL_law_403 : decode cL_law 403 = .ok (.iaload, 1) := by decide +kernel
theorem dL_law_404 : decode cL_law 404 = .ok (.ifCond .eq 7, 3) := by decide +kernel
theorem dL_law_407 : decode cL_law 407 = .ok (.iconst 1, 1) := by decide +kernel
theorem dL_law_408 : decode cL_law 408 = .ok (.goto 4, 3) := by decide +kernel
theorem dL_law_411 : decode cL_law 411 = .ok (.iconst 0, 1) := by decide +kernel
theorem dL_law_412 : decode cL_law 412 = .ok (.invokevirtual 80, 3) := by decide +kernel
theorem dL_law_415 : decode cL_law 415 = .ok (.istore 6, 2) := by decide +kernel
theorem dL_law_417 : decode cL_law 417 = .ok (.aload_n 2, 1) := by decide +kernel
theorem dL_law_418 : decode cL_law 418 = .ok (.invokevirtual 66, 3) := by decide +kernel
theorem dL_law_421 : decode cL_law 421 = .ok (.iload 5, 2) := by decide +kernel
theorem dL_law_423 : decode cL_law 423 = .ok (.if_icmp .eq 5, 3) := by decide +kernel
theorem dL_law_426 : decode cL_law 426 = .ok (.iconst 0, 1) := by decide +kernel
theorem dL_law_427 : decode cL_law 427 = .ok (.ireturn, 1) := by decide +kernel
theorem dL_law_428 : decode cL_law 428 = .ok (.iload 5, 2) := by decide +kernel
theorem dL_law_430 : decode cL_law 430 = .ok (.ifCond .ne 22, 3) := by decide +kernel
theorem dL_law_433 : decode cL_law 433 = .ok (.aload_n 3, 1) := by decide +kernel
theorem dL_law_434 : decode cL_law 434 = .ok (.iconst 0, 1) := by decide +kernel
theorem dL_law_435 : decode cL_law 435 = .ok (.laload, 1) := by decide +kernel
theorem dL_law_436 : decode cL_law 436 = .ok (.iload 6, 2) := by decide +kernel
theorem dL_law_438 : decode cL_law 438 = .ok (.ifCond .eq 7, 3) := by decide +kernel
theorem dL_law_441 : decode cL_law 441 = .ok (.lconst 1, 1) := by decide +kernel
theorem dL_law_442 : decode cL_law 442 = .ok (.goto 4, 3) := by decide +kernel
theorem dL_law_445 : decode cL_law 445 = .ok (.lconst 0, 1) := by decide +kernel
theorem dL_law_446 : decode cL_law 446 = .ok (.lcmp, 1) := by decide +kernel
theorem dL_law_447 : decode cL_law 447 = .ok (.ifCond .eq 5, 3) := by decide +kernel
theorem dL_law_450 : decode cL_law 450 = .ok (.iconst 0, 1) := by decide +kernel
theorem dL_law_451 : decode cL_law 451 = .ok (.ireturn, 1) := by decide +kernel
theorem dL_law_452 : decode cL_law 452 = .ok (.goto 608, 3) := by decide +kernel
theorem dL_law_455 : decode cL_law 455 = .ok (.aload_n 1, 1) := by decide +kernel
theorem dL_law_456 : decode cL_law 456 = .ok (.aload_n 0, 1) := by decide +kernel
theorem dL_law_457 : decode cL_law 457 = .ok (.iload 4, 2) := by decide +kernel
theorem dL_law_459 : decode cL_law 459 = .ok (.iconst 1, 1) := by decide +kernel
theorem dL_law_460 : decode cL_law 460 = .ok (.iadd, 1) := by decide +kernel
theorem dL_law_461 : decode cL_law 461 = .ok (.iaload, 1) := by decide +kernel
theorem dL_law_462 : decode cL_law 462 = .ok (.aload_n 0, 1) := by decide +kernel
theorem dL_law_463 : decode cL_law 463 = .ok (.iload 4, 2) := by decide +kernel
theorem dL_law_465 : decode cL_law 465 = .ok (.iconst 2, 1) := by decide +kernel
theorem dL_law_466 : decode cL_law 466 = .ok (.iadd, 1) := by decide +kernel
theorem dL_law_467 : decode cL_law 467 = .ok (.iaload, 1) := by decide +kernel
theorem dL_law_468 : decode cL_law 468 = .ok (.aload_n 0, 1) := by decide +kernel
theorem dL_law_469 : decode cL_law 469 = .ok (.iload 4, 2) := by decide +kernel
theorem dL_law_471 : decode cL_law 471 = .ok (.iconst 3, 1) := by decide +kernel
theorem dL_law_472 : decode cL_law 472 = .ok (.iadd, 1) := by decide +kernel
theorem dL_law_473 : decode cL_law 473 = .ok (.iaload, 1) := by decide +kernel
theorem dL_law_474 : decode cL_law 474 = .ok (.aload_n 3, 1) := by decide +kernel
theorem dL_law_475 : decode cL_law 475 = .ok (.invokestatic 81, 3) := by decide +kernel
theorem dL_law_478 : decode cL_law 478 = .ok (.istore 5, 2) := by decide +kernel
theorem dL_law_480 : decode cL_law 480 = .ok (.aload_n 2, 1) := by decide +kernel
theorem dL_law_481 : decode cL_law 481 = .ok (.aload_n 0, 1) := by decide +kernel
theorem dL_law_482 : decode cL_law 482 = .ok (.iload 4, 2) := by decide +kernel
theorem dL_law_484 : decode cL_law 484 = .ok (.iconst 1, 1) := by decide +kernel
theorem dL_law_485 : decode cL_law 485 = .ok (.iadd, 1) := by decide +kernel
theorem dL_law_486 : decode cL_law 486 = .ok (.iaload, 1) := by decide +kernel
theorem dL_law_487 : decode cL_law 487 = .ok (.aload_n 0, 1) := by decide +kernel
theorem dL_law_488 : decode cL_law 488 = .ok (.iload 4, 2) := by decide +kernel
theorem dL_law_490 : decode cL_law 490 = .ok (.iconst 2, 1) := by decide +kernel
theorem dL_law_491 : decode cL_law 491 = .ok (.iadd, 1) := by decide +kernel
theorem dL_law_492 : decode cL_law 492 = .ok (.iaload, 1) := by decide +kernel
theorem dL_law_493 : decode cL_law 493 = .ok (.aload_n 0, 1) := by decide +kernel
theorem dL_law_494 : decode cL_law 494 = .ok (.iload 4, 2) := by decide +kernel
theorem dL_law_496 : decode cL_law 496 = .ok (.iconst 3, 1) := by decide +kernel
theorem dL_law_497 : decode cL_law 497 = .ok (.iadd, 1) := by decide +kernel
theorem dL_law_498 : decode cL_law 498 = .ok (.iaload, 1) := by decide +kernel
theorem dL_law_499 : decode cL_law 499 = .ok (.invokevirtual 84, 3) := by decide +kernel
theorem dL_law_502 : decode cL_law 502 = .ok (.istore 6, 2) := by decide +kernel
theorem dL_law_504 : decode cL_law 504 = .ok (.aload_n 2, 1) := by decide +kernel
theorem dL_law_505 : decode cL_law 505 = .ok (.invokevirtual 66, 3) := by decide +kernel
theorem dL_law_508 : decode cL_law 508 = .ok (.iload 5, 2) := by decide +kernel
theorem dL_law_510 : decode cL_law 510 = .ok (.if_icmp .eq 5, 3) := by decide +kernel
theorem dL_law_513 : decode cL_law 513 = .ok (.iconst 0, 1) := by decide +kernel
theorem dL_law_514 : decode cL_law 514 = .ok (.ireturn, 1) := by decide +kernel
theorem dL_law_515 : decode cL_law 515 = .ok (.iload 5, 2) := by decide +kernel
theorem dL_law_517 : decode cL_law 517 = .ok (.ifCond .ne 15, 3) := by decide +kernel
theorem dL_law_520 : decode cL_law 520 = .ok (.aload_n 3, 1) := by decide +kernel
theorem dL_law_521 : decode cL_law 521 = .ok (.iconst 0, 1) := by decide +kernel
theorem dL_law_522 : decode cL_law 522 = .ok (.laload, 1) := by decide +kernel
theorem dL_law_523 : decode cL_law 523 = .ok (.iload 6, 2) := by decide +kernel
theorem dL_law_525 : decode cL_law 525 = .ok (.i2l, 1) := by decide +kernel
theorem dL_law_526 : decode cL_law 526 = .ok (.lcmp, 1) := by decide +kernel
theorem dL_law_527 : decode cL_law 527 = .ok (.ifCond .eq 5, 3) := by decide +kernel
theorem dL_law_530 : decode cL_law 530 = .ok (.iconst 0, 1) := by decide +kernel
theorem dL_law_531 : decode cL_law 531 = .ok (.ireturn, 1) := by decide +kernel
theorem dL_law_532 : decode cL_law 532 = .ok (.goto 528, 3) := by decide +kernel
theorem dL_law_535 : decode cL_law 535 = .ok (.aload_n 1, 1) := by decide +kernel
theorem dL_law_536 : decode cL_law 536 = .ok (.invokevirtual 85, 3) := by decide +kernel
theorem dL_law_539 : decode cL_law 539 = .ok (.aload_n 2, 1) := by decide +kernel
theorem dL_law_540 : decode cL_law 540 = .ok (.invokevirtual 88, 3) := by decide +kernel
theorem dL_law_543 : decode cL_law 543 = .ok (.if_icmp .eq 517, 3) := by decide +kernel
theorem dL_law_546 : decode cL_law 546 = .ok (.iconst 0, 1) := by decide +kernel
theorem dL_law_547 : decode cL_law 547 = .ok (.ireturn, 1) := by decide +kernel
theorem dL_law_548 : decode cL_law 548 = .ok (.aload_n 1, 1) := by decide +kernel
theorem dL_law_549 : decode cL_law 549 = .ok (.invokevirtual 89, 3) := by decide +kernel
theorem dL_law_552 : decode cL_law 552 = .ok (.aload_n 2, 1) := by decide +kernel
theorem dL_law_553 : decode cL_law 553 = .ok (.invokevirtual 92, 3) := by decide +kernel
theorem dL_law_556 : decode cL_law 556 = .ok (.if_icmp .eq 504, 3) := by decide +kernel
theorem dL_law_559 : decode cL_law 559 = .ok (.iconst 0, 1) := by decide +kernel
theorem dL_law_560 : decode cL_law 560 = .ok (.ireturn, 1) := by decide +kernel
theorem dL_law_561 : decode cL_law 561 = .ok (.aload_n 1, 1) := by decide +kernel
theorem dL_law_562 : decode cL_law 562 = .ok (.invokevirtual 93, 3) := by decide +kernel
theorem dL_law_565 : decode cL_law 565 = .ok (.aload_n 2, 1) := by decide +kernel
theorem dL_law_566 : decode cL_law 566 = .ok (.invokevirtual 96, 3) := by decide +kernel
theorem dL_law_569 : decode cL_law 569 = .ok (.if_icmp .eq 491, 3) := by decide +kernel
theorem dL_law_572 : decode cL_law 572 = .ok (.iconst 0, 1) := by decide +kernel
theorem dL_law_573 : decode cL_law 573 = .ok (.ireturn, 1) := by decide +kernel
theorem dL_law_574 : decode cL_law 574 = .ok (.aload_n 1, 1) := by decide +kernel
theorem dL_law_575 : decode cL_law 575 = .ok (.invokevirtual 97, 3) := by decide +kernel
theorem dL_law_578 : decode cL_law 578 = .ok (.aload_n 2, 1) := by decide +kernel
theorem dL_law_579 : decode cL_law 579 = .ok (.invokevirtual 100, 3) := by decide +kernel
theorem dL_law_582 : decode cL_law 582 = .ok (.if_icmp .eq 478, 3) := by decide +kernel
theorem dL_law_585 : decode cL_law 585 = .ok (.iconst 0, 1) := by decide +kernel
theorem dL_law_586 : decode cL_law 586 = .ok (.ireturn, 1) := by decide +kernel
theorem dL_law_587 : decode cL_law 587 = .ok (.aload_n 1, 1) := by decide +kernel
theorem dL_law_588 : decode cL_law 588 = .ok (.aload_n 0, 1) := by decide +kernel
theorem dL_law_589 : decode cL_law 589 = .ok (.iload 4, 2) := by decide +kernel
theorem dL_law_591 : decode cL_law 591 = .ok (.iconst 1, 1) := by decide +kernel
theorem dL_law_592 : decode cL_law 592 = .ok (.iadd, 1) := by decide +kernel
theorem dL_law_593 : decode cL_law 593 = .ok (.iaload, 1) := by decide +kernel
theorem dL_law_594 : decode cL_law 594 = .ok (.aload_n 0, 1) := by decide +kernel
theorem dL_law_595 : decode cL_law 595 = .ok (.iload 4, 2) := by decide +kernel
theorem dL_law_597 : decode cL_law 597 = .ok (.iconst 2, 1) := by decide +kernel
theorem dL_law_598 : decode cL_law 598 = .ok (.iadd, 1) := by decide +kernel
theorem dL_law_599 : decode cL_law 599 = .ok (.iaload, 1) := by decide +kernel
theorem dL_law_600 : decode cL_law 600 = .ok (.aload_n 0, 1) := by decide +kernel
theorem dL_law_601 : decode cL_law 601 = .ok (.iload 4, 2) := by decide +kernel
theorem dL_law_603 : decode cL_law 603 = .ok (.iconst 3, 1) := by decide +kernel
theorem dL_law_604 : decode cL_law 604 = .ok (.iadd, 1) := by decide +kernel
theorem dL_law_605 : decode cL_law 605 = .ok (.iaload, 1) := by decide +kernel
theorem dL_law_606 : decode cL_law 606 = .ok (.aload_n 3, 1) := by decide +kernel
theorem dL_law_607 : decode cL_law 607 = .ok (.invokestatic 101, 3) := by decide +kernel
theorem dL_law_610 : decode cL_law 610 = .ok (.istore 5, 2) := by decide +kernel
theorem dL_law_612 : decode cL_law 612 = .ok (.aload_n 2, 1) := by decide +kernel
theorem dL_law_613 : decode cL_law 613 = .ok (.aload_n 0, 1) := by decide +kernel
theorem dL_law_614 : decode cL_law 614 = .ok (.iload 4, 2) := by decide +kernel
theorem dL_law_616 : decode cL_law 616 = .ok (.iconst 1, 1) := by decide +kernel
theorem dL_law_617 : decode cL_law 617 = .ok (.iadd, 1) := by decide +kernel
theorem dL_law_618 : decode cL_law 618 = .ok (.iaload, 1) := by decide +kernel
theorem dL_law_619 : decode cL_law 619 = .ok (.aload_n 0, 1) := by decide +kernel
theorem dL_law_620 : decode cL_law 620 = .ok (.iload 4, 2) := by decide +kernel
theorem dL_law_622 : decode cL_law 622 = .ok (.iconst 2, 1) := by decide +kernel
theorem dL_law_623 : decode cL_law 623 = .ok (.iadd, 1) := by decide +kernel
theorem dL_law_624 : decode cL_law 624 = .ok (.iaload, 1) := by decide +kernel
theorem dL_law_625 : decode cL_law 625 = .ok (.aload_n 0, 1) := by decide +kernel
theorem dL_law_626 : decode cL_law 626 = .ok (.iload 4, 2) := by decide +kernel
theorem dL_law_628 : decode cL_law 628 = .ok (.iconst 3, 1) := by decide +kernel
theorem dL_law_629 : decode cL_law 629 = .ok (.iadd, 1) := by decide +kernel
theorem dL_law_630 : decode cL_law 630 = .ok (.iaload, 1) := by decide +kernel
theorem dL_law_631 : decode cL_law 631 = .ok (.invokevirtual 103, 3) := by decide +kernel
theorem dL_law_634 : decode cL_law 634 = .ok (.istore 6, 2) := by decide +kernel
theorem dL_law_636 : decode cL_law 636 = .ok (.aload_n 2, 1) := by decide +kernel
theorem dL_law_637 : decode cL_law 637 = .ok (.invokevirtual 66, 3) := by decide +kernel
theorem dL_law_640 : decode cL_law 640 = .ok (.iload 5, 2) := by decide +kernel
theorem dL_law_642 : decode cL_law 642 = .ok (.if_icmp .eq 5, 3) := by decide +kernel
theorem dL_law_645 : decode cL_law 645 = .ok (.iconst 0, 1) := by decide +kernel
theorem dL_law_646 : decode cL_law 646 = .ok (.ireturn, 1) := by decide +kernel
theorem dL_law_647 : decode cL_law 647 = .ok (.iload 5, 2) := by decide +kernel
theorem dL_law_649 : decode cL_law 649 = .ok (.ifCond .ne 15, 3) := by decide +kernel
theorem dL_law_652 : decode cL_law 652 = .ok (.aload_n 3, 1) := by decide +kernel
theorem dL_law_653 : decode cL_law 653 = .ok (.iconst 0, 1) := by decide +kernel
theorem dL_law_654 : decode cL_law 654 = .ok (.laload, 1) := by decide +kernel
theorem dL_law_655 : decode cL_law 655 = .ok (.iload 6, 2) := by decide +kernel
theorem dL_law_657 : decode cL_law 657 = .ok (.i2l, 1) := by decide +kernel
theorem dL_law_658 : decode cL_law 658 = .ok (.lcmp, 1) := by decide +kernel
theorem dL_law_659 : decode cL_law 659 = .ok (.ifCond .eq 5, 3) := by decide +kernel
theorem dL_law_662 : decode cL_law 662 = .ok (.iconst 0, 1) := by decide +kernel
theorem dL_law_663 : decode cL_law 663 = .ok (.ireturn, 1) := by decide +kernel
theorem dL_law_664 : decode cL_law 664 = .ok (.goto 396, 3) := by decide +kernel
theorem dL_law_667 : decode cL_law 667 = .ok (.aload_n 1, 1) := by decide +kernel
theorem dL_law_668 : decode cL_law 668 = .ok (.aload_n 0, 1) := by decide +kernel
theorem dL_law_669 : decode cL_law 669 = .ok (.iload 4, 2) := by decide +kernel
theorem dL_law_671 : decode cL_law 671 = .ok (.iconst 1, 1) := by decide +kernel
theorem dL_law_672 : decode cL_law 672 = .ok (.iadd, 1) := by decide +kernel
theorem dL_law_673 : decode cL_law 673 = .ok (.iaload, 1) := by decide +kernel
theorem dL_law_674 : decode cL_law 674 = .ok (.aload_n 0, 1) := by decide +kernel
theorem dL_law_675 : decode cL_law 675 = .ok (.iload 4, 2) := by decide +kernel
theorem dL_law_677 : decode cL_law 677 = .ok (.iconst 2, 1) := by decide +kernel
theorem dL_law_678 : decode cL_law 678 = .ok (.iadd, 1) := by decide +kernel
theorem dL_law_679 : decode cL_law 679 = .ok (.iaload, 1) := by decide +kernel
theorem dL_law_680 : decode cL_law 680 = .ok (.aload_n 0, 1) := by decide +kernel
theorem dL_law_681 : decode cL_law 681 = .ok (.iload 4, 2) := by decide +kernel
theorem dL_law_683 : decode cL_law 683 = .ok (.iconst 3, 1) := by decide +kernel
theorem dL_law_684 : decode cL_law 684 = .ok (.iadd, 1) := by decide +kernel
theorem dL_law_685 : decode cL_law 685 = .ok (.iaload, 1) := by decide +kernel
theorem dL_law_686 : decode cL_law 686 = .ok (.aload_n 3, 1) := by decide +kernel
theorem dL_law_687 : decode cL_law 687 = .ok (.invokestatic 104, 3) := by decide +kernel
theorem dL_law_690 : decode cL_law 690 = .ok (.istore 5, 2) := by decide +kernel
theorem dL_law_692 : decode cL_law 692 = .ok (.aload_n 2, 1) := by decide +kernel
theorem dL_law_693 : decode cL_law 693 = .ok (.aload_n 0, 1) := by decide +kernel
theorem dL_law_694 : decode cL_law 694 = .ok (.iload 4, 2) := by decide +kernel
theorem dL_law_696 : decode cL_law 696 = .ok (.iconst 1, 1) := by decide +kernel
theorem dL_law_697 : decode cL_law 697 = .ok (.iadd, 1) := by decide +kernel
theorem dL_law_698 : decode cL_law 698 = .ok (.iaload, 1) := by decide +kernel
theorem dL_law_699 : decode cL_law 699 = .ok (.aload_n 0, 1) := by decide +kernel
theorem dL_law_700 : decode cL_law 700 = .ok (.iload 4, 2) := by decide +kernel
theorem dL_law_702 : decode cL_law 702 = .ok (.iconst 2, 1) := by decide +kernel
theorem dL_law_703 : decode cL_law 703 = .ok (.iadd, 1) := by decide +kernel
theorem dL_law_704 : decode cL_law 704 = .ok (.iaload, 1) := by decide +kernel
theorem dL_law_705 : decode cL_law 705 = .ok (.aload_n 0, 1) := by decide +kernel
theorem dL_law_706 : decode cL_law 706 = .ok (.iload 4, 2) := by decide +kernel
theorem dL_law_708 : decode cL_law 708 = .ok (.iconst 3, 1) := by decide +kernel
theorem dL_law_709 : decode cL_law 709 = .ok (.iadd, 1) := by decide +kernel
theorem dL_law_710 : decode cL_law 710 = .ok (.iaload, 1) := by decide +kernel
theorem dL_law_711 : decode cL_law 711 = .ok (.invokevirtual 106, 3) := by decide +kernel
theorem dL_law_714 : decode cL_law 714 = .ok (.istore 6, 2) := by decide +kernel
theorem dL_law_716 : decode cL_law 716 = .ok (.aload_n 2, 1) := by decide +kernel
theorem dL_law_717 : decode cL_law 717 = .ok (.invokevirtual 66, 3) := by decide +kernel
theorem dL_law_720 : decode cL_law 720 = .ok (.iload 5, 2) := by decide +kernel
theorem dL_law_722 : decode cL_law 722 = .ok (.if_icmp .eq 5, 3) := by decide +kernel
theorem dL_law_725 : decode cL_law 725 = .ok (.iconst 0, 1) := by decide +kernel
theorem dL_law_726 : decode cL_law 726 = .ok (.ireturn, 1) := by decide +kernel
theorem dL_law_727 : decode cL_law 727 = .ok (.iload 5, 2) := by decide +kernel
theorem dL_law_729 : decode cL_law 729 = .ok (.ifCond .ne 15, 3) := by decide +kernel
theorem dL_law_732 : decode cL_law 732 = .ok (.aload_n 3, 1) := by decide +kernel
theorem dL_law_733 : decode cL_law 733 = .ok (.iconst 0, 1) := by decide +kernel
theorem dL_law_734 : decode cL_law 734 = .ok (.laload, 1) := by decide +kernel
theorem dL_law_735 : decode cL_law 735 = .ok (.iload 6, 2) := by decide +kernel
theorem dL_law_737 : decode cL_law 737 = .ok (.i2l, 1) := by decide +kernel
theorem dL_law_738 : decode cL_law 738 = .ok (.lcmp, 1) := by decide +kernel
theorem dL_law_739 : decode cL_law 739 = .ok (.ifCond .eq 5, 3) := by decide +kernel
theorem dL_law_742 : decode cL_law 742 = .ok (.iconst 0, 1) := by decide +kernel
theorem dL_law_743 : decode cL_law 743 = .ok (.ireturn, 1) := by decide +kernel
theorem dL_law_744 : decode cL_law 744 = .ok (.goto 316, 3) := by decide +kernel
theorem dL_law_747 : decode cL_law 747 = .ok (.aload_n 1, 1) := by decide +kernel
theorem dL_law_748 : decode cL_law 748 = .ok (.aload_n 0, 1) := by decide +kernel
theorem dL_law_749 : decode cL_law 749 = .ok (.iload 4, 2) := by decide +kernel
theorem dL_law_751 : decode cL_law 751 = .ok (.iconst 1, 1) := by decide +kernel
theorem dL_law_752 : decode cL_law 752 = .ok (.iadd, 1) := by decide +kernel
theorem dL_law_753 : decode cL_law 753 = .ok (.iaload, 1) := by decide +kernel
theorem dL_law_754 : decode cL_law 754 = .ok (.aload_n 3, 1) := by decide +kernel
theorem dL_law_755 : decode cL_law 755 = .ok (.invokestatic 107, 3) := by decide +kernel
theorem dL_law_758 : decode cL_law 758 = .ok (.istore 5, 2) := by decide +kernel
theorem dL_law_760 : decode cL_law 760 = .ok (.aload_n 2, 1) := by decide +kernel
theorem dL_law_761 : decode cL_law 761 = .ok (.aload_n 0, 1) := by decide +kernel
theorem dL_law_762 : decode cL_law 762 = .ok (.iload 4, 2) := by decide +kernel
theorem dL_law_764 : decode cL_law 764 = .ok (.iconst 1, 1) := by decide +kernel
theorem dL_law_765 : decode cL_law 765 = .ok (.iadd, 1) := by decide +kernel
theorem dL_law_766 : decode cL_law 766 = .ok (.iaload, 1) := by decide +kernel
theorem dL_law_767 : decode cL_law 767 = .ok (.invokevirtual 109, 3) := by decide +kernel
theorem dL_law_770 : decode cL_law 770 = .ok (.istore 6, 2) := by decide +kernel
theorem dL_law_772 : decode cL_law 772 = .ok (.aload_n 2, 1) := by decide +kernel
theorem dL_law_773 : decode cL_law 773 = .ok (.invokevirtual 66, 3) := by decide +kernel
theorem dL_law_776 : decode cL_law 776 = .ok (.iload 5, 2) := by decide +kernel
theorem dL_law_778 : decode cL_law 778 = .ok (.if_icmp .eq 5, 3) := by decide +kernel
theorem dL_law_781 : decode cL_law 781 = .ok (.iconst 0, 1) := by decide +kernel
theorem dL_law_782 : decode cL_law 782 = .ok (.ireturn, 1) := by decide +kernel
theorem dL_law_783 : decode cL_law 783 = .ok (.iload 5, 2) := by decide +kernel
theorem dL_law_785 : decode cL_law 785 = .ok (.ifCond .ne 15, 3) := by decide +kernel
theorem dL_law_788 : decode cL_law 788 = .ok (.aload_n 3, 1) := by decide +kernel
theorem dL_law_789 : decode cL_law 789 = .ok (.iconst 0, 1) := by decide +kernel
theorem dL_law_790 : decode cL_law 790 = .ok (.laload, 1) := by decide +kernel
theorem dL_law_791 : decode cL_law 791 = .ok (.iload 6, 2) := by decide +kernel
theorem dL_law_793 : decode cL_law 793 = .ok (.i2l, 1) := by decide +kernel
theorem dL_law_794 : decode cL_law 794 = .ok (.lcmp, 1) := by decide +kernel
theorem dL_law_795 : decode cL_law 795 = .ok (.ifCond .eq 5, 3) := by decide +kernel
theorem dL_law_798 : decode cL_law 798 = .ok (.iconst 0, 1) := by decide +kernel
theorem dL_law_799 : decode cL_law 799 = .ok (.ireturn, 1) := by decide +kernel
theorem dL_law_800 : decode cL_law 800 = .ok (.goto 260, 3) := by decide +kernel
theorem dL_law_803 : decode cL_law 803 = .ok (.aload_n 1, 1) := by decide +kernel
theorem dL_law_804 : decode cL_law 804 = .ok (.aload_n 0, 1) := by decide +kernel
theorem dL_law_805 : decode cL_law 805 = .ok (.iload 4, 2) := by decide +kernel
theorem dL_law_807 : decode cL_law 807 = .ok (.iconst 1, 1) := by decide +kernel
theorem dL_law_808 : decode cL_law 808 = .ok (.iadd, 1) := by decide +kernel
theorem dL_law_809 : decode cL_law 809 = .ok (.iaload, 1) := by decide +kernel
theorem dL_law_810 : decode cL_law 810 = .ok (.aload_n 3, 1) := by decide +kernel
theorem dL_law_811 : decode cL_law 811 = .ok (.invokestatic 110, 3) := by decide +kernel
theorem dL_law_814 : decode cL_law 814 = .ok (.istore 5, 2) := by decide +kernel
theorem dL_law_816 : decode cL_law 816 = .ok (.aload_n 2, 1) := by decide +kernel
theorem dL_law_817 : decode cL_law 817 = .ok (.aload_n 0, 1) := by decide +kernel
theorem dL_law_818 : decode cL_law 818 = .ok (.iload 4, 2) := by decide +kernel
theorem dL_law_820 : decode cL_law 820 = .ok (.iconst 1, 1) := by decide +kernel
theorem dL_law_821 : decode cL_law 821 = .ok (.iadd, 1) := by decide +kernel
theorem dL_law_822 : decode cL_law 822 = .ok (.iaload, 1) := by decide +kernel
theorem dL_law_823 : decode cL_law 823 = .ok (.invokevirtual 112, 3) := by decide +kernel
theorem dL_law_826 : decode cL_law 826 = .ok (.istore 6, 2) := by decide +kernel
theorem dL_law_828 : decode cL_law 828 = .ok (.aload_n 2, 1) := by decide +kernel
theorem dL_law_829 : decode cL_law 829 = .ok (.invokevirtual 66, 3) := by decide +kernel
theorem dL_law_832 : decode cL_law 832 = .ok (.iload 5, 2) := by decide +kernel
theorem dL_law_834 : decode cL_law 834 = .ok (.if_icmp .eq 5, 3) := by decide +kernel
theorem dL_law_837 : decode cL_law 837 = .ok (.iconst 0, 1) := by decide +kernel
theorem dL_law_838 : decode cL_law 838 = .ok (.ireturn, 1) := by decide +kernel
theorem dL_law_839 : decode cL_law 839 = .ok (.iload 5, 2) := by decide +kernel
theorem dL_law_841 : decode cL_law 841 = .ok (.ifCond .ne 15, 3) := by decide +kernel
theorem dL_law_844 : decode cL_law 844 = .ok (.aload_n 3, 1) := by decide +kernel
theorem dL_law_845 : decode cL_law 845 = .ok (.iconst 0, 1) := by decide +kernel
theorem dL_law_846 : decode cL_law 846 = .ok (.laload, 1) := by decide +kernel
theorem dL_law_847 : decode cL_law 847 = .ok (.iload 6, 2) := by decide +kernel
theorem dL_law_849 : decode cL_law 849 = .ok (.i2l, 1) := by decide +kernel
theorem dL_law_850 : decode cL_law 850 = .ok (.lcmp, 1) := by decide +kernel
theorem dL_law_851 : decode cL_law 851 = .ok (.ifCond .eq 5, 3) := by decide +kernel
theorem dL_law_854 : decode cL_law 854 = .ok (.iconst 0, 1) := by decide +kernel
theorem dL_law_855 : decode cL_law 855 = .ok (.ireturn, 1) := by decide +kernel
theorem dL_law_856 : decode cL_law 856 = .ok (.goto 204, 3) := by decide +kernel
theorem dL_law_859 : decode cL_law 859 = .ok (.aload_n 1, 1) := by decide +kernel
theorem dL_law_860 : decode cL_law 860 = .ok (.aload_n 0, 1) := by decide +kernel
theorem dL_law_861 : decode cL_law 861 = .ok (.iload 4, 2) := by decide +kernel
theorem dL_law_863 : decode cL_law 863 = .ok (.iconst 1, 1) := by decide +kernel
theorem dL_law_864 : decode cL_law 864 = .ok (.iadd, 1) := by decide +kernel
theorem dL_law_865 : decode cL_law 865 = .ok (.iaload, 1) := by decide +kernel
theorem dL_law_866 : decode cL_law 866 = .ok (.aload_n 3, 1) := by decide +kernel
theorem dL_law_867 : decode cL_law 867 = .ok (.invokestatic 113, 3) := by decide +kernel
theorem dL_law_870 : decode cL_law 870 = .ok (.istore 5, 2) := by decide +kernel
theorem dL_law_872 : decode cL_law 872 = .ok (.aload_n 2, 1) := by decide +kernel
theorem dL_law_873 : decode cL_law 873 = .ok (.aload_n 0, 1) := by decide +kernel
theorem dL_law_874 : decode cL_law 874 = .ok (.iload 4, 2) := by decide +kernel
theorem dL_law_876 : decode cL_law 876 = .ok (.iconst 1, 1) := by decide +kernel
theorem dL_law_877 : decode cL_law 877 = .ok (.iadd, 1) := by decide +kernel
theorem dL_law_878 : decode cL_law 878 = .ok (.iaload, 1) := by decide +kernel
theorem dL_law_879 : decode cL_law 879 = .ok (.invokevirtual 115, 3) := by decide +kernel
theorem dL_law_882 : decode cL_law 882 = .ok (.istore 6, 2) := by decide +kernel
theorem dL_law_884 : decode cL_law 884 = .ok (.aload_n 2, 1) := by decide +kernel
theorem dL_law_885 : decode cL_law 885 = .ok (.invokevirtual 66, 3) := by decide +kernel
theorem dL_law_888 : decode cL_law 888 = .ok (.iload 5, 2) := by decide +kernel
theorem dL_law_890 : decode cL_law 890 = .ok (.if_icmp .eq 5, 3) := by decide +kernel
theorem dL_law_893 : decode cL_law 893 = .ok (.iconst 0, 1) := by decide +kernel
theorem dL_law_894 : decode cL_law 894 = .ok (.ireturn, 1) := by decide +kernel
theorem dL_law_895 : decode cL_law 895 = .ok (.iload 5, 2) := by decide +kernel
theorem dL_law_897 : decode cL_law 897 = .ok (.ifCond .ne 15, 3) := by decide +kernel
theorem dL_law_900 : decode cL_law 900 = .ok (.aload_n 3, 1) := by decide +kernel
theorem dL_law_901 : decode cL_law 901 = .ok (.iconst 0, 1) := by decide +kernel
theorem dL_law_902 : decode cL_law 902 = .ok (.laload, 1) := by decide +kernel
theorem dL_law_903 : decode cL_law 903 = .ok (.iload 6, 2) := by decide +kernel
theorem dL_law_905 : decode cL_law 905 = .ok (.i2l, 1) := by decide +kernel
theorem dL_law_906 : decode cL_law 906 = .ok (.lcmp, 1) := by decide +kernel
theorem dL_law_907 : decode cL_law 907 = .ok (.ifCond .eq 5, 3) := by decide +kernel
theorem dL_law_910 : decode cL_law 910 = .ok (.iconst 0, 1) := by decide +kernel
theorem dL_law_911 : decode cL_law 911 = .ok (.ireturn, 1) := by decide +kernel
theorem dL_law_912 : decode cL_law 912 = .ok (.goto 148, 3) := by decide +kernel
theorem dL_law_915 : decode cL_law 915 = .ok (.aload_n 1, 1) := by decide +kernel
theorem dL_law_916 : decode cL_law 916 = .ok (.aload_n 0, 1) := by decide +kernel
theorem dL_law_917 : decode cL_law 917 = .ok (.iload 4, 2) := by decide +kernel
theorem dL_law_919 : decode cL_law 919 = .ok (.iconst 1, 1) := by decide +kernel
theorem dL_law_920 : decode cL_law 920 = .ok (.iadd, 1) := by decide +kernel
theorem dL_law_921 : decode cL_law 921 = .ok (.iaload, 1) := by decide +kernel
theorem dL_law_922 : decode cL_law 922 = .ok (.aload_n 3, 1) := by decide +kernel
theorem dL_law_923 : decode cL_law 923 = .ok (.invokestatic 116, 3) := by decide +kernel
theorem dL_law_926 : decode cL_law 926 = .ok (.istore 5, 2) := by decide +kernel
theorem dL_law_928 : decode cL_law 928 = .ok (.aload_n 2, 1) := by decide +kernel
theorem dL_law_929 : decode cL_law 929 = .ok (.aload_n 0, 1) := by decide +kernel
theorem dL_law_930 : decode cL_law 930 = .ok (.iload 4, 2) := by decide +kernel
theorem dL_law_932 : decode cL_law 932 = .ok (.iconst 1, 1) := by decide +kernel
theorem dL_law_933 : decode cL_law 933 = .ok (.iadd, 1) := by decide +kernel
theorem dL_law_934 : decode cL_law 934 = .ok (.iaload, 1) := by decide +kernel
theorem dL_law_935 : decode cL_law 935 = .ok (.invokevirtual 118, 3) := by decide +kernel
theorem dL_law_938 : decode cL_law 938 = .ok (.istore 6, 2) := by decide +kernel
theorem dL_law_940 : decode cL_law 940 = .ok (.aload_n 2, 1) := by decide +kernel
theorem dL_law_941 : decode cL_law 941 = .ok (.invokevirtual 66, 3) := by decide +kernel
theorem dL_law_944 : decode cL_law 944 = .ok (.iload 5, 2) := by decide +kernel
theorem dL_law_946 : decode cL_law 946 = .ok (.if_icmp .eq 5, 3) := by decide +kernel
theorem dL_law_949 : decode cL_law 949 = .ok (.iconst 0, 1) := by decide +kernel
theorem dL_law_950 : decode cL_law 950 = .ok (.ireturn, 1) := by decide +kernel
theorem dL_law_951 : decode cL_law 951 = .ok (.iload 5, 2) := by decide +kernel
theorem dL_law_953 : decode cL_law 953 = .ok (.ifCond .ne 22, 3) := by decide +kernel
theorem dL_law_956 : decode cL_law 956 = .ok (.aload_n 3, 1) := by decide +kernel
theorem dL_law_957 : decode cL_law 957 = .ok (.iconst 0, 1) := by decide +kernel
theorem dL_law_958 : decode cL_law 958 = .ok (.laload, 1) := by decide +kernel
theorem dL_law_959 : decode cL_law 959 = .ok (.iload 6, 2) := by decide +kernel
theorem dL_law_961 : decode cL_law 961 = .ok (.ifCond .eq 7, 3) := by decide +kernel
theorem dL_law_964 : decode cL_law 964 = .ok (.lconst 1, 1) := by decide +kernel
theorem dL_law_965 : decode cL_law 965 = .ok (.goto 4, 3) := by decide +kernel
theorem dL_law_968 : decode cL_law 968 = .ok (.lconst 0, 1) := by decide +kernel
theorem dL_law_969 : decode cL_law 969 = .ok (.lcmp, 1) := by decide +kernel
theorem dL_law_970 : decode cL_law 970 = .ok (.ifCond .eq 5, 3) := by decide +kernel
theorem dL_law_973 : decode cL_law 973 = .ok (.iconst 0, 1) := by decide +kernel
theorem dL_law_974 : decode cL_law 974 = .ok (.ireturn, 1) := by decide +kernel
theorem dL_law_975 : decode cL_law 975 = .ok (.goto 85, 3) := by decide +kernel
theorem dL_law_978 : decode cL_law 978 = .ok (.aload_n 1, 1) := by decide +kernel
theorem dL_law_979 : decode cL_law 979 = .ok (.aload_n 0, 1) := by decide +kernel
theorem dL_law_980 : decode cL_law 980 = .ok (.iload 4, 2) := by decide +kernel
theorem dL_law_982 : decode cL_law 982 = .ok (.iconst 1, 1) := by decide +kernel
theorem dL_law_983 : decode cL_law 983 = .ok (.iadd, 1) := by decide +kernel
theorem dL_law_984 : decode cL_law 984 = .ok (.iaload, 1) := by decide +kernel
theorem dL_law_985 : decode cL_law 985 = .ok (.aload_n 3, 1) := by decide +kernel
theorem dL_law_986 : decode cL_law 986 = .ok (.invokestatic 119, 3) := by decide +kernel
theorem dL_law_989 : decode cL_law 989 = .ok (.istore 5, 2) := by decide +kernel
theorem dL_law_991 : decode cL_law 991 = .ok (.aload_n 2, 1) := by decide +kernel
theorem dL_law_992 : decode cL_law 992 = .ok (.aload_n 0, 1) := by decide +kernel
theorem dL_law_993 : decode cL_law 993 = .ok (.iload 4, 2) := by decide +kernel
theorem dL_law_995 : decode cL_law 995 = .ok (.iconst 1, 1) := by decide +kernel
theorem dL_law_996 : decode cL_law 996 = .ok (.iadd, 1) := by decide +kernel
theorem dL_law_997 : decode cL_law 997 = .ok (.iaload, 1) := by decide +kernel
theorem dL_law_998 : decode cL_law 998 = .ok (.invokevirtual 121, 3) := by decide +kernel
theorem dL_law_1001 : decode cL_law 1001 = .ok (.istore 6, 2) := by decide +kernel
theorem dL_law_1003 : decode cL_law 1003 = .ok (.aload_n 2, 1) := by decide +kernel
theorem dL_law_1004 : decode cL_law 1004 = .ok (.invokevirtual 66, 3) := by decide +kernel
theorem dL_law_1007 : decode cL_law 1007 = .ok (.iload 5, 2) := by decide +kernel
theorem dL_law_1009 : decode cL_law 1009 = .ok (.if_icmp .eq 5, 3) := by decide +kernel
theorem dL_law_1012 : decode cL_law 1012 = .ok (.iconst 0, 1) := by decide +kernel
theorem dL_law_1013 : decode cL_law 1013 = .ok (.ireturn, 1) := by decide +kernel
theorem dL_law_1014 : decode cL_law 1014 = .ok (.iload 5, 2) := by decide +kernel
theorem dL_law_1016 : decode cL_law 1016 = .ok (.ifCond .ne 15, 3) := by decide +kernel
theorem dL_law_1019 : decode cL_law 1019 = .ok (.aload_n 3, 1) := by decide +kernel
theorem dL_law_1020 : decode cL_law 1020 = .ok (.iconst 0, 1) := by decide +kernel
theorem dL_law_1021 : decode cL_law 1021 = .ok (.laload, 1) := by decide +kernel
theorem dL_law_1022 : decode cL_law 1022 = .ok (.iload 6, 2) := by decide +kernel
theorem dL_law_1024 : decode cL_law 1024 = .ok (.i2l, 1) := by decide +kernel
theorem dL_law_1025 : decode cL_law 1025 = .ok (.lcmp, 1) := by decide +kernel
theorem dL_law_1026 : decode cL_law 1026 = .ok (.ifCond .eq 5, 3) := by decide +kernel
theorem dL_law_1029 : decode cL_law 1029 = .ok (.iconst 0, 1) := by decide +kernel
theorem dL_law_1030 : decode cL_law 1030 = .ok (.ireturn, 1) := by decide +kernel
theorem dL_law_1031 : decode cL_law 1031 = .ok (.goto 29, 3) := by decide +kernel
theorem dL_law_1034 : decode cL_law 1034 = .ok (.aload_n 1, 1) := by decide +kernel
theorem dL_law_1035 : decode cL_law 1035 = .ok (.invokevirtual 122, 3) := by decide +kernel
theorem dL_law_1038 : decode cL_law 1038 = .ok (.aload_n 2, 1) := by decide +kernel
theorem dL_law_1039 : decode cL_law 1039 = .ok (.invokevirtual 125, 3) := by decide +kernel
theorem dL_law_1042 : decode cL_law 1042 = .ok (.if_icmp .eq 18, 3) := by decide +kernel
theorem dL_law_1045 : decode cL_law 1045 = .ok (.iconst 0, 1) := by decide +kernel
theorem dL_law_1046 : decode cL_law 1046 = .ok (.ireturn, 1) := by decide +kernel
theorem dL_law_1047 : decode cL_law 1047 = .ok (.aload_n 1, 1) := by decide +kernel
theorem dL_law_1048 : decode cL_law 1048 = .ok (.invokevirtual 126, 3) := by decide +kernel
theorem dL_law_1051 : decode cL_law 1051 = .ok (.aload_n 2, 1) := by decide +kernel
theorem dL_law_1052 : decode cL_law 1052 = .ok (.invokevirtual 130, 3) := by decide +kernel
theorem dL_law_1055 : decode cL_law 1055 = .ok (.if_icmp .eq 5, 3) := by decide +kernel
theorem dL_law_1058 : decode cL_law 1058 = .ok (.iconst 0, 1) := by decide +kernel
theorem dL_law_1059 : decode cL_law 1059 = .ok (.ireturn, 1) := by decide +kernel
theorem dL_law_1060 : decode cL_law 1060 = .ok (.iinc 4 5, 3) := by decide +kernel
theorem dL_law_1063 : decode cL_law 1063 = .ok (.goto (-1040), 3) := by decide +kernel
theorem dL_law_1066 : decode cL_law 1066 = .ok (.iconst 1, 1) := by decide +kernel
theorem dL_law_1067 : decode cL_law 1067 = .ok (.ireturn, 1) := by decide +kernel
