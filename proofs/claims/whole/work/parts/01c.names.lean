theorem dX7_hops_9 : decode cX7_hops 9 = .ok (.getfield 190, 3) := by decide +kernel
theorem dX7_hops_12 : decode cX7_hops 12 = .ok (.iload_n 1, 1) := by decide +kernel
theorem dX7_hops_13 : decode cX7_hops 13 = .ok (.invokevirtual 149, 3) := by decide +kernel
theorem dX7_hops_16 : decode cX7_hops 16 = .ok (.ireturn, 1) := by decide +kernel
set_option maxRecDepth 20000 in
theorem ggX7_isMarked_X7_checkPacket : GoodIn wsX7_isMarked wsX7_checkPacket := goodIn_ca (goodIn_r _ [6, 7, 8, 1, 15, 16, 17, 18, 19, 20, 21, 22, 23, 24, 25, 26, 27, 28, 29, 30, 31, 32, 33, 34, 35, 36, 37] (by decide +kernel) (by decide +kernel)) (goodIn_sub (fun _ h => List.mem_cons_of_mem _ (List.mem_append_right _ h)) (by decide +kernel))
set_option maxRecDepth 20000 in
theorem gX7_isMarked_X7_checkPacket : GoodIn wsX7_isMarked (wsV RX7 184 RX7 yX7_checkPacket wsX7_checkPacket) := goodIn_app (goodIn_of _ (by decide +kernel)) ggX7_isMarked_X7_checkPacket
set_option maxRecDepth 20000 in
theorem ggX7_isMarked_X5_at : GoodIn wsX7_isMarked wsX5_at := goodIn_r _ [13, 14, 38] (by decide +kernel) (by decide +kernel)
set_option maxRecDepth 20000 in
theorem gX7_isMarked_X5_at : GoodIn wsX7_isMarked (wsV RX7 149 RX5 yX5_at wsX5_at) := goodIn_app (goodIn_of _ (by decide +kernel)) ggX7_isMarked_X5_at
theorem dX7_isMarked_0 : decode cX7_isMarked 0 = .ok (.aload_n 0, 1) := by decide +kernel
theorem dX7_isMarked_1 : decode cX7_isMarked 1 = .ok (.iload_n 1, 1) := by decide +kernel
theorem dX7_isMarked_2 : decode cX7_isMarked 2 = .ok (.invokevirtual 184, 3) := by decide +kernel
theorem dX7_isMarked_5 : decode cX7_isMarked 5 = .ok (.aload_n 0, 1) := by decide +kernel
theorem dX7_isMarked_6 : decode cX7_isMarked 6 = .ok (.getfield 21, 3) := by decide +kernel
theorem dX7_isMarked_9 : decode cX7_isMarked 9 = .ok (.getfield 193, 3) := by decide +kernel
theorem dX7_isMarked_12 : decode cX7_isMarked 12 = .ok (.iload_n 1, 1) := by decide +kernel
theorem dX7_isMarked_13 : decode cX7_isMarked 13 = .ok (.invokevirtual 149, 3) := by decide +kernel
theorem dX7_isMarked_16 : decode cX7_isMarked 16 = .ok (.ifCond .eq 7, 3) := by decide +kernel
theorem dX7_isMarked_19 : decode cX7_isMarked 19 = .ok (.iconst 1, 1) := by decide +kernel
theorem dX7_isMarked_20 : decode cX7_isMarked 20 = .ok (.goto 4, 3) := by decide +kernel
theorem dX7_isMarked_23 : decode cX7_isMarked 23 = .ok (.iconst 0, 1) := by decide +kernel
theorem dX7_isMarked_24 : decode cX7_isMarked 24 = .ok (.ireturn, 1) := by decide +kernel
set_option maxRecDepth 20000 in
theorem ggX7_wants_X7_checkPacket : GoodIn wsX7_wants wsX7_checkPacket := goodIn_ca (goodIn_r _ [6, 7, 8, 1, 35, 36, 37, 38, 39, 40, 41, 42, 43, 44, 45, 46, 47, 48, 49, 50, 51, 52, 53, 54, 55, 56, 57] (by decide +kernel) (by decide +kernel)) (goodIn_sub (fun _ h => List.mem_cons_of_mem _ (List.mem_append_right _ h)) (by decide +kernel))
set_option maxRecDepth 20000 in
theorem gX7_wants_X7_checkPacket : GoodIn wsX7_wants (wsV RX7 184 RX7 yX7_checkPacket wsX7_checkPacket) := goodIn_app (goodIn_of _ (by decide +kernel)) ggX7_wants_X7_checkPacket
set_option maxRecDepth 20000 in
theorem ggX7_wants_X4_outputOf : GoodIn wsX7_wants wsX4_outputOf := goodIn_r _ [13, 14, 15, 16, 17, 18, 19, 20, 21, 22, 23, 24, 25, 26, 27, 28, 29, 30, 31, 32, 33, 34, 47, 48, 49, 50, 51, 52, 53, 54, 55, 56, 57, 58, 59, 60, 61, 62] (by decide +kernel) (by decide +kernel)
set_option maxRecDepth 20000 in
theorem gX7_wants_X4_outputOf : GoodIn wsX7_wants (wsV RX7 196 RX4 yX4_outputOf wsX4_outputOf) := goodIn_app (goodIn_of _ (by decide +kernel)) ggX7_wants_X4_outputOf
theorem dX7_wants_0 : decode cX7_wants 0 = .ok (.aload_n 0, 1) := by decide +kernel
theorem dX7_wants_1 : decode cX7_wants 1 = .ok (.iload_n 1, 1) := by decide +kernel
theorem dX7_wants_2 : decode cX7_wants 2 = .ok (.invokevirtual 184, 3) := by decide +kernel
theorem dX7_wants_5 : decode cX7_wants 5 = .ok (.aload_n 0, 1) := by decide +kernel
theorem dX7_wants_6 : decode cX7_wants 6 = .ok (.getfield 21, 3) := by decide +kernel
theorem dX7_wants_9 : decode cX7_wants 9 = .ok (.iload_n 1, 1) := by decide +kernel
theorem dX7_wants_10 : decode cX7_wants 10 = .ok (.invokevirtual 196, 3) := by decide +kernel
theorem dX7_wants_13 : decode cX7_wants 13 = .ok (.ireturn, 1) := by decide +kernel
set_option maxRecDepth 20000 in
theorem ggX7_circle_X1_countWaiting : GoodIn wsX7_circle wsX1_countWaiting := goodIn_r _ [6, 7, 8, 9, 10, 11, 12, 13, 14, 15, 16, 17, 18, 5, 19, 20, 21, 22, 23, 24, 25, 26, 27, 28, 29, 30, 31, 32, 33, 34, 35, 36, 37, 38, 39, 40, 41, 42, 43, 44, 45, 46, 47, 48, 49, 50, 51, 52, 53, 54, 55, 56, 57, 58, 59, 60, 61, 62, 63, 64, 65, 66, 67, 68, 69, 70, 71, 72, 73, 74, 75, 76, 77, 78, 79, 92, 93, 94, 95, 96, 97, 98, 99, 100, 101, 102, 103, 104, 105, 106, 107, 108, 109, 110, 111, 112, 113, 114, 115] (by decide +kernel) (by decide +kernel)
set_option maxRecDepth 20000 in
theorem gX7_circle_X1_countWaiting : GoodIn wsX7_circle (wsV RX7 199 RX1 yX1_countWaiting wsX1_countWaiting) := goodIn_app (goodIn_of _ (by decide +kernel)) ggX7_circle_X1_countWaiting
theorem dX7_circle_0 : decode cX7_circle 0 = .ok (.aload_n 0, 1) := by decide +kernel
theorem dX7_circle_1 : decode cX7_circle 1 = .ok (.getfield 51, 3) := by decide +kernel
theorem dX7_circle_4 : decode cX7_circle 4 = .ok (.invokevirtual 199, 3) := by decide +kernel
theorem dX7_circle_7 : decode cX7_circle 7 = .ok (.ireturn, 1) := by decide +kernel
set_option maxRecDepth 20000 in
theorem ggX7_mayCircle_X1_hangsTogether : GoodIn wsX7_mayCircle wsX1_hangsTogether := goodIn_r _ [6, 7, 8, 9, 10, 11, 12, 13, 14, 15, 16, 17, 18, 19, 20, 21, 5, 22, 23, 24, 25, 26, 27, 28, 29, 30, 31, 32, 33, 34, 35, 36, 37, 38, 39, 40, 41, 42, 43, 44, 45, 46, 47, 48, 49, 50, 51, 52, 53, 54, 55, 56, 57, 58, 59, 60, 61, 62, 63, 76, 77, 78, 79, 80, 81, 82, 83, 84, 85, 86, 87, 88, 89, 90, 91, 92, 93, 94, 95, 96] (by decide +kernel) (by decide +kernel)
set_option maxRecDepth 20000 in
theorem gX7_mayCircle_X1_hangsTogether : GoodIn wsX7_mayCircle (wsV RX7 202 RX1 yX1_hangsTogether wsX1_hangsTogether) := goodIn_app (goodIn_of _ (by decide +kernel)) ggX7_mayCircle_X1_hangsTogether
theorem dX7_mayCircle_0 : decode cX7_mayCircle 0 = .ok (.aload_n 0, 1) := by decide +kernel
theorem dX7_mayCircle_1 : decode cX7_mayCircle 1 = .ok (.getfield 51, 3) := by decide +kernel
theorem dX7_mayCircle_4 : decode cX7_mayCircle 4 = .ok (.invokevirtual 202, 3) := by decide +kernel
theorem dX7_mayCircle_7 : decode cX7_mayCircle 7 = .ok (.ireturn, 1) := by decide +kernel
set_option maxRecDepth 20000 in
theorem ggX7_checkSwitch_X3_has : GoodIn wsX7_checkSwitch wsX3_has := goodIn_r _ [8, 9, 10, 11, 7, 12, 13, 14, 27, 28, 29, 30] (by decide +kernel) (by decide +kernel)
set_option maxRecDepth 20000 in
theorem gX7_checkSwitch_X3_has : GoodIn wsX7_checkSwitch (wsV RX7 206 RX3 yX3_has wsX3_has) := goodIn_app (goodIn_of _ (by decide +kernel)) ggX7_checkSwitch_X3_has
theorem dX7_checkSwitch_0 : decode cX7_checkSwitch 0 = .ok (.aload_n 0, 1) := by decide +kernel
theorem dX7_checkSwitch_1 : decode cX7_checkSwitch 1 = .ok (.getfield 12, 3) := by decide +kernel
theorem dX7_checkSwitch_4 : decode cX7_checkSwitch 4 = .ok (.iload_n 1, 1) := by decide +kernel
theorem dX7_checkSwitch_5 : decode cX7_checkSwitch 5 = .ok (.invokevirtual 206, 3) := by decide +kernel
theorem dX7_checkSwitch_8 : decode cX7_checkSwitch 8 = .ok (.ifCond .ne 13, 3) := by decide +kernel
theorem dX7_checkSwitch_11 : decode cX7_checkSwitch 11 = .ok (.new 209, 3) := by decide +kernel
theorem dX7_checkSwitch_14 : decode cX7_checkSwitch 14 = .ok (.dup, 1) := by decide +kernel
theorem dX7_checkSwitch_15 : decode cX7_checkSwitch 15 = .ok (.ldc 211, 2) := by decide +kernel
theorem dX7_checkSwitch_17 : decode cX7_checkSwitch 17 = .ok (.invokespecial 213, 3) := by decide +kernel
theorem dX7_checkSwitch_20 : decode cX7_checkSwitch 20 = .ok (.athrow, 1) := by decide +kernel
theorem dX7_checkSwitch_21 : decode cX7_checkSwitch 21 = .ok (.return_, 1) := by decide +kernel
set_option maxRecDepth 20000 in
theorem ggX7_checkLink_X7_checkSwitch : GoodIn wsX7_checkLink wsX7_checkSwitch := goodIn_ca (goodIn_r _ [8, 1, 2, 3, 9, 10, 11, 12, 13, 14, 15, 16, 17, 18, 19, 32, 33, 34, 35, 36, 37, 38, 39, 40, 41, 42, 43, 44, 45, 46, 47] (by decide +kernel) (by decide +kernel)) (goodIn_sub (fun _ h => List.mem_cons_of_mem _ (List.mem_append_right _ h)) (by decide +kernel))
set_option maxRecDepth 20000 in
theorem gX7_checkLink_X7_checkSwitch : GoodIn wsX7_checkLink (wsV RX7 92 RX7 yX7_checkSwitch wsX7_checkSwitch) := goodIn_app (goodIn_of _ (by decide +kernel)) ggX7_checkLink_X7_checkSwitch
set_option maxRecDepth 20000 in
theorem ggX7_checkLink_X3_behind : GoodIn wsX7_checkLink wsX3_behind := goodIn_r _ [23, 24, 18, 25, 19, 26, 27, 28, 29, 30, 31, 44, 45, 46, 47, 48] (by decide +kernel) (by decide +kernel)
set_option maxRecDepth 20000 in
theorem gX7_checkLink_X3_behind : GoodIn wsX7_checkLink (wsV RX7 214 RX3 yX3_behind wsX3_behind) := goodIn_app (goodIn_of _ (by decide +kernel)) ggX7_checkLink_X3_behind
theorem dX7_checkLink_0 : decode cX7_checkLink 0 = .ok (.aload_n 0, 1) := by decide +kernel
theorem dX7_checkLink_1 : decode cX7_checkLink 1 = .ok (.iload_n 1, 1) := by decide +kernel
theorem dX7_checkLink_2 : decode cX7_checkLink 2 = .ok (.invokevirtual 92, 3) := by decide +kernel
theorem dX7_checkLink_5 : decode cX7_checkLink 5 = .ok (.aload_n 0, 1) := by decide +kernel
theorem dX7_checkLink_6 : decode cX7_checkLink 6 = .ok (.getfield 12, 3) := by decide +kernel
theorem dX7_checkLink_9 : decode cX7_checkLink 9 = .ok (.iload_n 1, 1) := by decide +kernel
theorem dX7_checkLink_10 : decode cX7_checkLink 10 = .ok (.iload_n 2, 1) := by decide +kernel
theorem dX7_checkLink_11 : decode cX7_checkLink 11 = .ok (.invokevirtual 214, 3) := by decide +kernel
theorem dX7_checkLink_14 : decode cX7_checkLink 14 = .ok (.iconst (-1), 1) := by decide +kernel
theorem dX7_checkLink_15 : decode cX7_checkLink 15 = .ok (.if_icmp .ne 13, 3) := by decide +kernel
theorem dX7_checkLink_18 : decode cX7_checkLink 18 = .ok (.new 209, 3) := by decide +kernel
theorem dX7_checkLink_21 : decode cX7_checkLink 21 = .ok (.dup, 1) := by decide +kernel
theorem dX7_checkLink_22 : decode cX7_checkLink 22 = .ok (.ldc 217, 2) := by decide +kernel
theorem dX7_checkLink_24 : decode cX7_checkLink 24 = .ok (.invokespecial 213, 3) := by decide +kernel
theorem dX7_checkLink_27 : decode cX7_checkLink 27 = .ok (.athrow, 1) := by decide +kernel
theorem dX7_checkLink_28 : decode cX7_checkLink 28 = .ok (.return_, 1) := by decide +kernel
theorem dX7_checkPacket_0 : decode cX7_checkPacket 0 = .ok (.iload_n 1, 1) := by decide +kernel
theorem dX7_checkPacket_1 : decode cX7_checkPacket 1 = .ok (.ifCond .lt 14, 3) := by decide +kernel
theorem dX7_checkPacket_4 : decode cX7_checkPacket 4 = .ok (.iload_n 1, 1) := by decide +kernel
theorem dX7_checkPacket_5 : decode cX7_checkPacket 5 = .ok (.aload_n 0, 1) := by decide +kernel
theorem dX7_checkPacket_6 : decode cX7_checkPacket 6 = .ok (.getfield 21, 3) := by decide +kernel
theorem dX7_checkPacket_9 : decode cX7_checkPacket 9 = .ok (.getfield 125, 3) := by decide +kernel
theorem dX7_checkPacket_12 : decode cX7_checkPacket 12 = .ok (.if_icmp .lt 13, 3) := by decide +kernel
theorem dX7_checkPacket_15 : decode cX7_checkPacket 15 = .ok (.new 209, 3) := by decide +kernel
theorem dX7_checkPacket_18 : decode cX7_checkPacket 18 = .ok (.dup, 1) := by decide +kernel
theorem dX7_checkPacket_19 : decode cX7_checkPacket 19 = .ok (.ldc 219, 2) := by decide +kernel
theorem dX7_checkPacket_21 : decode cX7_checkPacket 21 = .ok (.invokespecial 213, 3) := by decide +kernel
theorem dX7_checkPacket_24 : decode cX7_checkPacket 24 = .ok (.athrow, 1) := by decide +kernel
theorem dX7_checkPacket_25 : decode cX7_checkPacket 25 = .ok (.return_, 1) := by decide +kernel
theorem dX7_checkLane_0 : decode cX7_checkLane 0 = .ok (.iload_n 0, 1) := by decide +kernel
theorem dX7_checkLane_1 : decode cX7_checkLane 1 = .ok (.ifCond .eq 18, 3) := by decide +kernel
theorem dX7_checkLane_4 : decode cX7_checkLane 4 = .ok (.iload_n 0, 1) := by decide +kernel
theorem dX7_checkLane_5 : decode cX7_checkLane 5 = .ok (.iconst 1, 1) := by decide +kernel
theorem dX7_checkLane_6 : decode cX7_checkLane 6 = .ok (.if_icmp .eq 13, 3) := by decide +kernel
theorem dX7_checkLane_9 : decode cX7_checkLane 9 = .ok (.new 77, 3) := by decide +kernel
theorem dX7_checkLane_12 : decode cX7_checkLane 12 = .ok (.dup, 1) := by decide +kernel
theorem dX7_checkLane_13 : decode cX7_checkLane 13 = .ok (.ldc 221, 2) := by decide +kernel
theorem dX7_checkLane_15 : decode cX7_checkLane 15 = .ok (.invokespecial 81, 3) := by decide +kernel
theorem dX7_checkLane_18 : decode cX7_checkLane 18 = .ok (.athrow, 1) := by decide +kernel
theorem dX7_checkLane_19 : decode cX7_checkLane 19 = .ok (.return_, 1) := by decide +kernel
set_option maxRecDepth 20000 in
theorem ggX7_layAnew_X3_lay : GoodIn wsX7_layAnew wsX3_lay := goodIn_r _ [13, 14, 15, 16, 17, 18, 19, 20, 21, 22, 23, 73, 74, 75, 76, 77] (by decide +kernel) (by decide +kernel)
set_option maxRecDepth 20000 in
theorem gX7_layAnew_X3_lay : GoodIn wsX7_layAnew (wsV RX7 223 RX3 yX3_lay wsX3_lay) := goodIn_app (goodIn_of _ (by decide +kernel)) ggX7_layAnew_X3_lay
set_option maxRecDepth 20000 in
theorem ggX7_layAnew_X4_clear : GoodIn wsX7_layAnew wsX4_clear := goodIn_r _ [28, 29, 30, 78, 79, 80, 81, 82, 83, 84, 85, 86, 87, 88] (by decide +kernel) (by decide +kernel)
set_option maxRecDepth 20000 in
theorem gX7_layAnew_X4_clear : GoodIn wsX7_layAnew (wsV RX7 226 RX4 yX4_clear wsX4_clear) := goodIn_app (goodIn_of _ (by decide +kernel)) ggX7_layAnew_X4_clear
set_option maxRecDepth 20000 in
theorem ggX7_layAnew_X0_clear : GoodIn wsX7_layAnew wsX0_clear := goodIn_r _ [35, 36, 37, 38, 39, 40, 21, 41, 23, 89, 90, 91, 77] (by decide +kernel) (by decide +kernel)
set_option maxRecDepth 20000 in
theorem gX7_layAnew_X0_clear : GoodIn wsX7_layAnew (wsV RX7 229 RX0 yX0_clear wsX0_clear) := goodIn_app (goodIn_of _ (by decide +kernel)) ggX7_layAnew_X0_clear
set_option maxRecDepth 20000 in
theorem ggX7_layAnew_X2_fill : GoodIn wsX7_layAnew wsX2_fill := goodIn_r _ [46, 47, 48, 49, 50, 51, 39, 40, 21, 41, 23, 92, 93, 94, 95, 77] (by decide +kernel) (by decide +kernel)
set_option maxRecDepth 20000 in
theorem gX7_layAnew_X2_fill : GoodIn wsX7_layAnew (wsV RX7 231 RX2 yX2_fill wsX2_fill) := goodIn_app (goodIn_of _ (by decide +kernel)) ggX7_layAnew_X2_fill
set_option maxRecDepth 20000 in
theorem ggX7_layAnew_X6_clear : GoodIn wsX7_layAnew wsX6_clear := goodIn_r _ [56, 57, 58, 59, 39, 40, 21, 41, 23, 96, 97, 77] (by decide +kernel) (by decide +kernel)
set_option maxRecDepth 20000 in
theorem gX7_layAnew_X6_clear : GoodIn wsX7_layAnew (wsV RX7 234 RX6 yX6_clear wsX6_clear) := goodIn_app (goodIn_of _ (by decide +kernel)) ggX7_layAnew_X6_clear
set_option maxRecDepth 20000 in
theorem ggX7_layAnew_X5_fill : GoodIn wsX7_layAnew wsX5_fill := goodIn_r _ [41, 23, 77] (by decide +kernel) (by decide +kernel)
set_option maxRecDepth 20000 in
theorem gX7_layAnew_X5_fill : GoodIn wsX7_layAnew (wsV RX7 235 RX5 yX5_fill wsX5_fill) := goodIn_app (goodIn_of _ (by decide +kernel)) ggX7_layAnew_X5_fill
theorem dX7_layAnew_0 : decode cX7_layAnew 0 = .ok (.aload_n 0, 1) := by decide +kernel
theorem dX7_layAnew_1 : decode cX7_layAnew 1 = .ok (.getfield 12, 3) := by decide +kernel
theorem dX7_layAnew_4 : decode cX7_layAnew 4 = .ok (.iload_n 1, 1) := by decide +kernel
theorem dX7_layAnew_5 : decode cX7_layAnew 5 = .ok (.iload_n 2, 1) := by decide +kernel
theorem dX7_layAnew_6 : decode cX7_layAnew 6 = .ok (.invokevirtual 223, 3) := by decide +kernel
theorem dX7_layAnew_9 : decode cX7_layAnew 9 = .ok (.aload_n 0, 1) := by decide +kernel
theorem dX7_layAnew_10 : decode cX7_layAnew 10 = .ok (.getfield 21, 3) := by decide +kernel
theorem dX7_layAnew_13 : decode cX7_layAnew 13 = .ok (.invokevirtual 226, 3) := by decide +kernel
theorem dX7_layAnew_16 : decode cX7_layAnew 16 = .ok (.aload_n 0, 1) := by decide +kernel
theorem dX7_layAnew_17 : decode cX7_layAnew 17 = .ok (.getfield 28, 3) := by decide +kernel
theorem dX7_layAnew_20 : decode cX7_layAnew 20 = .ok (.iload_n 3, 1) := by decide +kernel
theorem dX7_layAnew_21 : decode cX7_layAnew 21 = .ok (.invokevirtual 229, 3) := by decide +kernel
theorem dX7_layAnew_24 : decode cX7_layAnew 24 = .ok (.aload_n 0, 1) := by decide +kernel
theorem dX7_layAnew_25 : decode cX7_layAnew 25 = .ok (.getfield 35, 3) := by decide +kernel
theorem dX7_layAnew_28 : decode cX7_layAnew 28 = .ok (.iload_n 3, 1) := by decide +kernel
theorem dX7_layAnew_29 : decode cX7_layAnew 29 = .ok (.iload 4, 2) := by decide +kernel
theorem dX7_layAnew_31 : decode cX7_layAnew 31 = .ok (.invokevirtual 231, 3) := by decide +kernel
theorem dX7_layAnew_34 : decode cX7_layAnew 34 = .ok (.aload_n 0, 1) := by decide +kernel
theorem dX7_layAnew_35 : decode cX7_layAnew 35 = .ok (.getfield 42, 3) := by decide +kernel
theorem dX7_layAnew_38 : decode cX7_layAnew 38 = .ok (.invokevirtual 234, 3) := by decide +kernel
theorem dX7_layAnew_41 : decode cX7_layAnew 41 = .ok (.aload_n 0, 1) := by decide +kernel
theorem dX7_layAnew_42 : decode cX7_layAnew 42 = .ok (.getfield 60, 3) := by decide +kernel
theorem dX7_layAnew_45 : decode cX7_layAnew 45 = .ok (.iconst 0, 1) := by decide +kernel
theorem dX7_layAnew_46 : decode cX7_layAnew 46 = .ok (.invokevirtual 235, 3) := by decide +kernel
theorem dX7_layAnew_49 : decode cX7_layAnew 49 = .ok (.aload_n 0, 1) := by decide +kernel
theorem dX7_layAnew_50 : decode cX7_layAnew 50 = .ok (.getfield 64, 3) := by decide +kernel
theorem dX7_layAnew_53 : decode cX7_layAnew 53 = .ok (.iconst 0, 1) := by decide +kernel
theorem dX7_layAnew_54 : decode cX7_layAnew 54 = .ok (.invokevirtual 235, 3) := by decide +kernel
theorem dX7_layAnew_57 : decode cX7_layAnew 57 = .ok (.aload_n 0, 1) := by decide +kernel
theorem dX7_layAnew_58 : decode cX7_layAnew 58 = .ok (.iconst 0, 1) := by decide +kernel
theorem dX7_layAnew_59 : decode cX7_layAnew 59 = .ok (.putfield 115, 3) := by decide +kernel
theorem dX7_layAnew_62 : decode cX7_layAnew 62 = .ok (.return_, 1) := by decide +kernel
set_option maxRecDepth 20000 in
theorem ggX7_runOne_X2_comeBack : GoodIn wsX7_runOne wsX2_comeBack := goodIn_r _ [10, 11, 12, 13, 14, 15, 9, 16, 17, 18, 19, 20, 21, 22, 23, 24, 25, 26, 27, 28, 29, 30, 31, 32, 180, 181, 182, 183, 184] (by decide +kernel) (by decide +kernel)
set_option maxRecDepth 20000 in
theorem gX7_runOne_X2_comeBack : GoodIn wsX7_runOne (wsV RX7 237 RX2 yX2_comeBack wsX2_comeBack) := goodIn_app (goodIn_of _ (by decide +kernel)) ggX7_runOne_X2_comeBack
set_option maxRecDepth 20000 in
theorem ggX7_runOne_X3_size : GoodIn wsX7_runOne wsX3_size := goodIn_r _ [37, 38, 39, 185, 186, 187, 188] (by decide +kernel) (by decide +kernel)
set_option maxRecDepth 20000 in
theorem gX7_runOne_X3_size : GoodIn wsX7_runOne (wsV RX7 88 RX3 yX3_size wsX3_size) := goodIn_app (goodIn_of _ (by decide +kernel)) ggX7_runOne_X3_size
set_option maxRecDepth 20000 in
theorem ggX7_runOne_X7_chooseAt : GoodIn wsX7_runOne wsX7_chooseAt := goodIn_r _ [44, 45, 46, 47, 48, 49, 50, 20, 51, 22, 52, 53, 54, 55, 56, 57, 58, 59, 18, 19, 21, 60, 61, 62, 63, 64, 65, 66, 67, 68, 69, 70, 71, 72, 36, 73, 74, 75, 76, 77, 78, 79, 80, 81, 82, 83, 43, 84, 4, 85, 1, 86, 87, 88, 89, 38, 39, 90, 91, 92, 93, 94, 95, 9, 96, 13, 17, 97, 29, 30, 31, 98, 99, 100, 101, 102, 5, 3, 168, 169, 170, 171, 172, 173, 174, 175, 176, 177, 178, 179, 189, 190, 191, 192, 193, 194, 195, 196, 197, 198, 199, 184, 200, 201, 202, 185, 186, 187, 188, 180, 181, 182, 183] (by decide +kernel) (by decide +kernel)
set_option maxRecDepth 20000 in
theorem gX7_runOne_X7_chooseAt : GoodIn wsX7_runOne (wsV RX7 243 RX7 yX7_chooseAt wsX7_chooseAt) := goodIn_app (goodIn_of _ (by decide +kernel)) ggX7_runOne_X7_chooseAt
set_option maxRecDepth 20000 in
theorem ggX7_runOne_X5_at : GoodIn wsX7_runOne wsX5_at := goodIn_r _ [21, 22, 184] (by decide +kernel) (by decide +kernel)
set_option maxRecDepth 20000 in
theorem gX7_runOne_X5_at : GoodIn wsX7_runOne (wsV RX7 149 RX5 yX5_at wsX5_at) := goodIn_app (goodIn_of _ (by decide +kernel)) ggX7_runOne_X5_at
set_option maxRecDepth 20000 in
theorem ggX7_runOne_X7_move : GoodIn wsX7_runOne wsX7_move := goodIn_r _ [106, 47, 46, 1, 2, 107, 4, 60, 61, 62, 63, 64, 65, 66, 67, 68, 69, 18, 19, 20, 21, 22, 70, 71, 72, 36, 73, 74, 75, 76, 77, 78, 79, 80, 90, 91, 43, 92, 108, 109, 110, 55, 111, 57, 58, 59, 112, 29, 30, 31, 113, 24, 25, 26, 27, 28, 114, 115, 116, 9, 117, 12, 118, 11, 14, 15, 16, 23, 119, 120, 121, 122, 123, 124, 125, 126, 127, 128, 129, 130, 131, 132, 133, 134, 135, 136, 137, 138, 139, 86, 87, 88, 89, 38, 39, 140, 141, 142, 143, 13, 144, 145, 146, 147, 148, 149, 150, 151, 152, 153, 154, 155, 156, 157, 158, 159, 168, 169, 170, 171, 172, 173, 174, 175, 176, 177, 178, 179, 189, 190, 191, 192, 193, 194, 195, 196, 197, 198, 199, 184, 185, 186, 187, 188, 200, 201, 202, 180, 181, 182, 183, 203, 204] (by decide +kernel) (by decide +kernel)
set_option maxRecDepth 20000 in
theorem gX7_runOne_X7_move : GoodIn wsX7_runOne (wsV RX7 246 RX7 yX7_move wsX7_move) := goodIn_app (goodIn_of _ (by decide +kernel)) ggX7_runOne_X7_move
set_option maxRecDepth 20000 in
theorem ggX7_runOne_X7_markInCrowd : GoodIn wsX7_runOne wsX7_markInCrowd := goodIn_r _ [163, 47, 46, 80, 18, 19, 20, 21, 22, 164, 165, 166, 55, 167, 57, 59, 97, 29, 30, 31, 168, 169, 170, 171, 172, 173, 174, 175, 176, 177, 178, 179, 189, 190, 191, 192, 193, 194, 195, 196, 197, 198, 199, 184, 200, 201, 202] (by decide +kernel) (by decide +kernel)
set_option maxRecDepth 20000 in
theorem gX7_runOne_X7_markInCrowd : GoodIn wsX7_runOne (wsV RX7 249 RX7 yX7_markInCrowd wsX7_markInCrowd) := goodIn_app (goodIn_of _ (by decide +kernel)) ggX7_runOne_X7_markInCrowd
theorem dX7_runOne_0 : decode cX7_runOne 0 = .ok (.aload_n 0, 1) := by decide +kernel
theorem dX7_runOne_1 : decode cX7_runOne 1 = .ok (.getfield 35, 3) := by decide +kernel
theorem dX7_runOne_4 : decode cX7_runOne 4 = .ok (.aload_n 0, 1) := by decide +kernel
theorem dX7_runOne_5 : decode cX7_runOne 5 = .ok (.getfield 115, 3) := by decide +kernel
theorem dX7_runOne_8 : decode cX7_runOne 8 = .ok (.invokevirtual 237, 3) := by decide +kernel
theorem dX7_runOne_11 : decode cX7_runOne 11 = .ok (.aload_n 0, 1) := by decide +kernel
theorem dX7_runOne_12 : decode cX7_runOne 12 = .ok (.iconst 0, 1) := by decide +kernel
theorem dX7_runOne_13 : decode cX7_runOne 13 = .ok (.putfield 240, 3) := by decide +kernel
theorem dX7_runOne_16 : decode cX7_runOne 16 = .ok (.iconst 0, 1) := by decide +kernel
theorem dX7_runOne_17 : decode cX7_runOne 17 = .ok (.istore_n 1, 1) := by decide +kernel
theorem dX7_runOne_18 : decode cX7_runOne 18 = .ok (.iload_n 1, 1) := by decide +kernel
theorem dX7_runOne_19 : decode cX7_runOne 19 = .ok (.aload_n 0, 1) := by decide +kernel
theorem dX7_runOne_20 : decode cX7_runOne 20 = .ok (.getfield 12, 3) := by decide +kernel
theorem dX7_runOne_23 : decode cX7_runOne 23 = .ok (.invokevirtual 88, 3) := by decide +kernel
theorem dX7_runOne_26 : decode cX7_runOne 26 = .ok (.if_icmp .ge 14, 3) := by decide +kernel
theorem dX7_runOne_29 : decode cX7_runOne 29 = .ok (.aload_n 0, 1) := by decide +kernel
theorem dX7_runOne_30 : decode cX7_runOne 30 = .ok (.iload_n 1, 1) := by decide +kernel
theorem dX7_runOne_31 : decode cX7_runOne 31 = .ok (.invokevirtual 243, 3) := by decide +kernel
theorem dX7_runOne_34 : decode cX7_runOne 34 = .ok (.iinc 1 1, 3) := by decide +kernel
theorem dX7_runOne_37 : decode cX7_runOne 37 = .ok (.goto (-19), 3) := by decide +kernel
theorem dX7_runOne_40 : decode cX7_runOne 40 = .ok (.iconst 0, 1) := by decide +kernel
theorem dX7_runOne_41 : decode cX7_runOne 41 = .ok (.istore_n 1, 1) := by decide +kernel
theorem dX7_runOne_42 : decode cX7_runOne 42 = .ok (.iload_n 1, 1) := by decide +kernel
theorem dX7_runOne_43 : decode cX7_runOne 43 = .ok (.aload_n 0, 1) := by decide +kernel
theorem dX7_runOne_44 : decode cX7_runOne 44 = .ok (.getfield 240, 3) := by decide +kernel
theorem dX7_runOne_47 : decode cX7_runOne 47 = .ok (.if_icmp .ge 21, 3) := by decide +kernel
theorem dX7_runOne_50 : decode cX7_runOne 50 = .ok (.aload_n 0, 1) := by decide +kernel
theorem dX7_runOne_51 : decode cX7_runOne 51 = .ok (.aload_n 0, 1) := by decide +kernel
theorem dX7_runOne_52 : decode cX7_runOne 52 = .ok (.getfield 70, 3) := by decide +kernel
theorem dX7_runOne_55 : decode cX7_runOne 55 = .ok (.iload_n 1, 1) := by decide +kernel
theorem dX7_runOne_56 : decode cX7_runOne 56 = .ok (.invokevirtual 149, 3) := by decide +kernel
theorem dX7_runOne_59 : decode cX7_runOne 59 = .ok (.invokevirtual 246, 3) := by decide +kernel
theorem dX7_runOne_62 : decode cX7_runOne 62 = .ok (.iinc 1 1, 3) := by decide +kernel
theorem dX7_runOne_65 : decode cX7_runOne 65 = .ok (.goto (-23), 3) := by decide +kernel
theorem dX7_runOne_68 : decode cX7_runOne 68 = .ok (.iconst 0, 1) := by decide +kernel
theorem dX7_runOne_69 : decode cX7_runOne 69 = .ok (.istore_n 1, 1) := by decide +kernel
theorem dX7_runOne_70 : decode cX7_runOne 70 = .ok (.iload_n 1, 1) := by decide +kernel
theorem dX7_runOne_71 : decode cX7_runOne 71 = .ok (.aload_n 0, 1) := by decide +kernel
theorem dX7_runOne_72 : decode cX7_runOne 72 = .ok (.getfield 240, 3) := by decide +kernel
theorem dX7_runOne_75 : decode cX7_runOne 75 = .ok (.if_icmp .ge 21, 3) := by decide +kernel
theorem dX7_runOne_78 : decode cX7_runOne 78 = .ok (.aload_n 0, 1) := by decide +kernel
theorem dX7_runOne_79 : decode cX7_runOne 79 = .ok (.aload_n 0, 1) := by decide +kernel
theorem dX7_runOne_80 : decode cX7_runOne 80 = .ok (.getfield 70, 3) := by decide +kernel
theorem dX7_runOne_83 : decode cX7_runOne 83 = .ok (.iload_n 1, 1) := by decide +kernel
theorem dX7_runOne_84 : decode cX7_runOne 84 = .ok (.invokevirtual 149, 3) := by decide +kernel
theorem dX7_runOne_87 : decode cX7_runOne 87 = .ok (.invokevirtual 249, 3) := by decide +kernel
theorem dX7_runOne_90 : decode cX7_runOne 90 = .ok (.iinc 1 1, 3) := by decide +kernel
theorem dX7_runOne_93 : decode cX7_runOne 93 = .ok (.goto (-23), 3) := by decide +kernel
theorem dX7_runOne_96 : decode cX7_runOne 96 = .ok (.aload_n 0, 1) := by decide +kernel
theorem dX7_runOne_97 : decode cX7_runOne 97 = .ok (.dup, 1) := by decide +kernel
theorem dX7_runOne_98 : decode cX7_runOne 98 = .ok (.getfield 115, 3) := by decide +kernel
theorem dX7_runOne_101 : decode cX7_runOne 101 = .ok (.iconst 1, 1) := by decide +kernel
theorem dX7_runOne_102 : decode cX7_runOne 102 = .ok (.iadd, 1) := by decide +kernel
theorem dX7_runOne_103 : decode cX7_runOne 103 = .ok (.putfield 115, 3) := by decide +kernel
theorem dX7_runOne_106 : decode cX7_runOne 106 = .ok (.return_, 1) := by decide +kernel
set_option maxRecDepth 20000 in
theorem ggX7_chooseAt_X5_fill : GoodIn wsX7_chooseAt wsX5_fill := goodIn_r _ [8, 9, 101] (by decide +kernel) (by decide +kernel)
set_option maxRecDepth 20000 in
theorem gX7_chooseAt_X5_fill : GoodIn wsX7_chooseAt (wsV RX7 235 RX5 yX5_fill wsX5_fill) := goodIn_app (goodIn_of _ (by decide +kernel)) ggX7_chooseAt_X5_fill
set_option maxRecDepth 20000 in
theorem ggX7_chooseAt_X0_first : GoodIn wsX7_chooseAt wsX0_first := goodIn_r _ [14, 15, 16, 17, 18, 19, 7, 20, 9, 102, 103, 104, 101] (by decide +kernel) (by decide +kernel)
set_option maxRecDepth 20000 in
theorem gX7_chooseAt_X0_first : GoodIn wsX7_chooseAt (wsV RX7 252 RX0 yX0_first wsX0_first) := goodIn_app (goodIn_of _ (by decide +kernel)) ggX7_chooseAt_X0_first
set_option maxRecDepth 20000 in
theorem ggX7_chooseAt_X4_outputOf : GoodIn wsX7_chooseAt wsX4_outputOf := goodIn_r _ [25, 26, 27, 28, 29, 30, 18, 19, 7, 20, 9, 31, 32, 33, 34, 35, 36, 37, 38, 39, 40, 41, 90, 91, 92, 93, 94, 95, 96, 97, 98, 99, 100, 101, 105, 106, 107, 108] (by decide +kernel) (by decide +kernel)
set_option maxRecDepth 20000 in
theorem gX7_chooseAt_X4_outputOf : GoodIn wsX7_chooseAt (wsV RX7 196 RX4 yX4_outputOf wsX4_outputOf) := goodIn_app (goodIn_of _ (by decide +kernel)) ggX7_chooseAt_X4_outputOf
set_option maxRecDepth 20000 in
theorem ggX7_chooseAt_X5_at : GoodIn wsX7_chooseAt wsX5_at := goodIn_r _ [20, 9, 101] (by decide +kernel) (by decide +kernel)
set_option maxRecDepth 20000 in
theorem gX7_chooseAt_X5_at : GoodIn wsX7_chooseAt (wsV RX7 149 RX5 yX5_at wsX5_at) := goodIn_app (goodIn_of _ (by decide +kernel)) ggX7_chooseAt_X5_at
set_option maxRecDepth 20000 in
theorem ggX7_chooseAt_X7_canGo : GoodIn wsX7_chooseAt wsX7_canGo := goodIn_r _ [47, 48, 49, 50, 51, 52, 53, 34, 54, 36, 55, 37, 56, 38, 18, 19, 7, 20, 9, 42, 57, 58, 46, 59, 60, 61, 62, 63, 64, 65, 66, 78, 79, 80, 81, 82, 83, 84, 85, 86, 87, 88, 89, 105, 106, 107, 108, 101, 109, 110, 111, 112] (by decide +kernel) (by decide +kernel)
set_option maxRecDepth 20000 in
theorem gX7_chooseAt_X7_canGo : GoodIn wsX7_chooseAt (wsV RX7 258 RX7 yX7_canGo wsX7_canGo) := goodIn_app (goodIn_of _ (by decide +kernel)) ggX7_chooseAt_X7_canGo
set_option maxRecDepth 20000 in
theorem ggX7_chooseAt_X5_put : GoodIn wsX7_chooseAt wsX5_put := goodIn_r _ [70, 9, 101] (by decide +kernel) (by decide +kernel)
set_option maxRecDepth 20000 in
theorem gX7_chooseAt_X5_put : GoodIn wsX7_chooseAt (wsV RX7 153 RX5 yX5_put wsX5_put) := goodIn_app (goodIn_of _ (by decide +kernel)) ggX7_chooseAt_X5_put
set_option maxRecDepth 20000 in
theorem ggX7_chooseAt_X7_takeTurn : GoodIn wsX7_chooseAt wsX7_takeTurn := goodIn_r _ [74, 75, 76, 77, 2, 42, 18, 19, 7, 20, 9, 10, 11, 12, 13, 14, 15, 16, 17, 67, 68, 69, 70, 78, 79, 80, 81, 82, 83, 84, 85, 86, 87, 88, 89, 101, 102, 103, 104] (by decide +kernel) (by decide +kernel)
set_option maxRecDepth 20000 in
theorem gX7_chooseAt_X7_takeTurn : GoodIn wsX7_chooseAt (wsV RX7 262 RX7 yX7_takeTurn wsX7_takeTurn) := goodIn_app (goodIn_of _ (by decide +kernel)) ggX7_chooseAt_X7_takeTurn
theorem dX7_chooseAt_0 : decode cX7_chooseAt 0 = .ok (.aload_n 0, 1) := by decide +kernel
theorem dX7_chooseAt_1 : decode cX7_chooseAt 1 = .ok (.getfield 67, 3) := by decide +kernel
theorem dX7_chooseAt_4 : decode cX7_chooseAt 4 = .ok (.iconst 0, 1) := by decide +kernel
theorem dX7_chooseAt_5 : decode cX7_chooseAt 5 = .ok (.invokevirtual 235, 3) := by decide +kernel
theorem dX7_chooseAt_8 : decode cX7_chooseAt 8 = .ok (.iconst 0, 1) := by decide +kernel
theorem dX7_chooseAt_9 : decode cX7_chooseAt 9 = .ok (.istore_n 2, 1) := by decide +kernel
theorem dX7_chooseAt_10 : decode cX7_chooseAt 10 = .ok (.iload_n 2, 1) := by decide +kernel
theorem dX7_chooseAt_11 : decode cX7_chooseAt 11 = .ok (.bipush 10, 2) := by decide +kernel
theorem dX7_chooseAt_13 : decode cX7_chooseAt 13 = .ok (.if_icmp .ge 81, 3) := by decide +kernel
theorem dX7_chooseAt_16 : decode cX7_chooseAt 16 = .ok (.aload_n 0, 1) := by decide +kernel
theorem dX7_chooseAt_17 : decode cX7_chooseAt 17 = .ok (.getfield 28, 3) := by decide +kernel
theorem dX7_chooseAt_20 : decode cX7_chooseAt 20 = .ok (.iload_n 1, 1) := by decide +kernel
theorem dX7_chooseAt_21 : decode cX7_chooseAt 21 = .ok (.bipush 10, 2) := by decide +kernel
theorem dX7_chooseAt_23 : decode cX7_chooseAt 23 = .ok (.imul, 1) := by decide +kernel
theorem dX7_chooseAt_24 : decode cX7_chooseAt 24 = .ok (.iload_n 2, 1) := by decide +kernel
theorem dX7_chooseAt_25 : decode cX7_chooseAt 25 = .ok (.iadd, 1) := by decide +kernel
theorem dX7_chooseAt_26 : decode cX7_chooseAt 26 = .ok (.invokevirtual 252, 3) := by decide +kernel
theorem dX7_chooseAt_29 : decode cX7_chooseAt 29 = .ok (.istore_n 3, 1) := by decide +kernel
theorem dX7_chooseAt_30 : decode cX7_chooseAt 30 = .ok (.iload_n 3, 1) := by decide +kernel
theorem dX7_chooseAt_31 : decode cX7_chooseAt 31 = .ok (.iconst (-1), 1) := by decide +kernel
theorem dX7_chooseAt_32 : decode cX7_chooseAt 32 = .ok (.if_icmp .eq 56, 3) := by decide +kernel
theorem dX7_chooseAt_35 : decode cX7_chooseAt 35 = .ok (.aload_n 0, 1) := by decide +kernel
theorem dX7_chooseAt_36 : decode cX7_chooseAt 36 = .ok (.getfield 21, 3) := by decide +kernel
theorem dX7_chooseAt_39 : decode cX7_chooseAt 39 = .ok (.iload_n 3, 1) := by decide +kernel
theorem dX7_chooseAt_40 : decode cX7_chooseAt 40 = .ok (.invokevirtual 196, 3) := by decide +kernel
theorem dX7_chooseAt_43 : decode cX7_chooseAt 43 = .ok (.istore 4, 2) := by decide +kernel
theorem dX7_chooseAt_45 : decode cX7_chooseAt 45 = .ok (.aload_n 0, 1) := by decide +kernel
theorem dX7_chooseAt_46 : decode cX7_chooseAt 46 = .ok (.iload_n 1, 1) := by decide +kernel
theorem dX7_chooseAt_47 : decode cX7_chooseAt 47 = .ok (.iload 4, 2) := by decide +kernel
theorem dX7_chooseAt_49 : decode cX7_chooseAt 49 = .ok (.aload_n 0, 1) := by decide +kernel
theorem dX7_chooseAt_50 : decode cX7_chooseAt 50 = .ok (.getfield 21, 3) := by decide +kernel
theorem dX7_chooseAt_53 : decode cX7_chooseAt 53 = .ok (.getfield 255, 3) := by decide +kernel
theorem dX7_chooseAt_56 : decode cX7_chooseAt 56 = .ok (.iload_n 3, 1) := by decide +kernel
theorem dX7_chooseAt_57 : decode cX7_chooseAt 57 = .ok (.invokevirtual 149, 3) := by decide +kernel
theorem dX7_chooseAt_60 : decode cX7_chooseAt 60 = .ok (.invokevirtual 258, 3) := by decide +kernel
theorem dX7_chooseAt_63 : decode cX7_chooseAt 63 = .ok (.ifCond .eq 25, 3) := by decide +kernel
theorem dX7_chooseAt_66 : decode cX7_chooseAt 66 = .ok (.aload_n 0, 1) := by decide +kernel
theorem dX7_chooseAt_67 : decode cX7_chooseAt 67 = .ok (.getfield 67, 3) := by decide +kernel
theorem dX7_chooseAt_70 : decode cX7_chooseAt 70 = .ok (.iload 4, 2) := by decide +kernel
theorem dX7_chooseAt_72 : decode cX7_chooseAt 72 = .ok (.aload_n 0, 1) := by decide +kernel
theorem dX7_chooseAt_73 : decode cX7_chooseAt 73 = .ok (.getfield 67, 3) := by decide +kernel
theorem dX7_chooseAt_76 : decode cX7_chooseAt 76 = .ok (.iload 4, 2) := by decide +kernel
theorem dX7_chooseAt_78 : decode cX7_chooseAt 78 = .ok (.invokevirtual 149, 3) := by decide +kernel
theorem dX7_chooseAt_81 : decode cX7_chooseAt 81 = .ok (.iconst 1, 1) := by decide +kernel
theorem dX7_chooseAt_82 : decode cX7_chooseAt 82 = .ok (.iload_n 2, 1) := by decide +kernel
theorem dX7_chooseAt_83 : decode cX7_chooseAt 83 = .ok (.ishl, 1) := by decide +kernel
theorem dX7_chooseAt_84 : decode cX7_chooseAt 84 = .ok (.ior, 1) := by decide +kernel
theorem dX7_chooseAt_85 : decode cX7_chooseAt 85 = .ok (.invokevirtual 153, 3) := by decide +kernel
theorem dX7_chooseAt_88 : decode cX7_chooseAt 88 = .ok (.iinc 2 1, 3) := by decide +kernel
theorem dX7_chooseAt_91 : decode cX7_chooseAt 91 = .ok (.goto (-81), 3) := by decide +kernel
theorem dX7_chooseAt_94 : decode cX7_chooseAt 94 = .ok (.iconst 0, 1) := by decide +kernel
theorem dX7_chooseAt_95 : decode cX7_chooseAt 95 = .ok (.istore_n 2, 1) := by decide +kernel
theorem dX7_chooseAt_96 : decode cX7_chooseAt 96 = .ok (.iload_n 2, 1) := by decide +kernel
theorem dX7_chooseAt_97 : decode cX7_chooseAt 97 = .ok (.iconst 5, 1) := by decide +kernel
theorem dX7_chooseAt_98 : decode cX7_chooseAt 98 = .ok (.if_icmp .ge 34, 3) := by decide +kernel
theorem dX7_chooseAt_101 : decode cX7_chooseAt 101 = .ok (.aload_n 0, 1) := by decide +kernel
theorem dX7_chooseAt_102 : decode cX7_chooseAt 102 = .ok (.getfield 67, 3) := by decide +kernel
theorem dX7_chooseAt_105 : decode cX7_chooseAt 105 = .ok (.iload_n 2, 1) := by decide +kernel
theorem dX7_chooseAt_106 : decode cX7_chooseAt 106 = .ok (.invokevirtual 149, 3) := by decide +kernel
theorem dX7_chooseAt_109 : decode cX7_chooseAt 109 = .ok (.ifCond .eq 17, 3) := by decide +kernel
theorem dX7_chooseAt_112 : decode cX7_chooseAt 112 = .ok (.aload_n 0, 1) := by decide +kernel
theorem dX7_chooseAt_113 : decode cX7_chooseAt 113 = .ok (.iload_n 1, 1) := by decide +kernel
theorem dX7_chooseAt_114 : decode cX7_chooseAt 114 = .ok (.iload_n 2, 1) := by decide +kernel
theorem dX7_chooseAt_115 : decode cX7_chooseAt 115 = .ok (.aload_n 0, 1) := by decide +kernel
theorem dX7_chooseAt_116 : decode cX7_chooseAt 116 = .ok (.getfield 67, 3) := by decide +kernel
theorem dX7_chooseAt_119 : decode cX7_chooseAt 119 = .ok (.iload_n 2, 1) := by decide +kernel
theorem dX7_chooseAt_120 : decode cX7_chooseAt 120 = .ok (.invokevirtual 149, 3) := by decide +kernel
theorem dX7_chooseAt_123 : decode cX7_chooseAt 123 = .ok (.invokevirtual 262, 3) := by decide +kernel
theorem dX7_chooseAt_126 : decode cX7_chooseAt 126 = .ok (.iinc 2 1, 3) := by decide +kernel
theorem dX7_chooseAt_129 : decode cX7_chooseAt 129 = .ok (.goto (-33), 3) := by decide +kernel
theorem dX7_chooseAt_132 : decode cX7_chooseAt 132 = .ok (.return_, 1) := by decide +kernel
set_option maxRecDepth 20000 in
theorem ggX7_canGo_X3_behind : GoodIn wsX7_canGo wsX3_behind := goodIn_r _ [8, 9, 10, 11, 12, 13, 14, 15, 16, 17, 18, 43, 44, 45, 46, 47] (by decide +kernel) (by decide +kernel)
set_option maxRecDepth 20000 in
theorem gX7_canGo_X3_behind : GoodIn wsX7_canGo (wsV RX7 214 RX3 yX3_behind wsX3_behind) := goodIn_app (goodIn_of _ (by decide +kernel)) ggX7_canGo_X3_behind
set_option maxRecDepth 20000 in
theorem ggX7_canGo_X5_at : GoodIn wsX7_canGo wsX5_at := goodIn_r _ [17, 18, 47] (by decide +kernel) (by decide +kernel)
set_option maxRecDepth 20000 in
theorem gX7_canGo_X5_at : GoodIn wsX7_canGo (wsV RX7 149 RX5 yX5_at wsX5_at) := goodIn_app (goodIn_of _ (by decide +kernel)) ggX7_canGo_X5_at
set_option maxRecDepth 20000 in
theorem ggX7_canGo_X7_bufferOf : GoodIn wsX7_canGo wsX7_bufferOf := goodIn_r _ [23] (by decide +kernel) (by decide +kernel)
set_option maxRecDepth 20000 in
theorem gX7_canGo_X7_bufferOf : GoodIn wsX7_canGo (va_wsS RX7 102 yX7_bufferOf wsX7_bufferOf) := goodIn_app (goodIn_of _ (by decide +kernel)) ggX7_canGo_X7_bufferOf
set_option maxRecDepth 20000 in
theorem ggX7_canGo_X2_there : GoodIn wsX7_canGo wsX2_there := goodIn_r _ [28, 29, 30, 14, 15, 16, 17, 18, 48, 49, 50, 51, 47] (by decide +kernel) (by decide +kernel)
set_option maxRecDepth 20000 in
theorem gX7_canGo_X2_there : GoodIn wsX7_canGo (wsV RX7 162 RX2 yX2_there wsX2_there) := goodIn_app (goodIn_of _ (by decide +kernel)) ggX7_canGo_X2_there
theorem dX7_canGo_0 : decode cX7_canGo 0 = .ok (.iload_n 2, 1) := by decide +kernel
theorem dX7_canGo_1 : decode cX7_canGo 1 = .ok (.iconst 4, 1) := by decide +kernel
theorem dX7_canGo_2 : decode cX7_canGo 2 = .ok (.if_icmp .ne 5, 3) := by decide +kernel
theorem dX7_canGo_5 : decode cX7_canGo 5 = .ok (.iconst 1, 1) := by decide +kernel
theorem dX7_canGo_6 : decode cX7_canGo 6 = .ok (.ireturn, 1) := by decide +kernel
theorem dX7_canGo_7 : decode cX7_canGo 7 = .ok (.aload_n 0, 1) := by decide +kernel
theorem dX7_canGo_8 : decode cX7_canGo 8 = .ok (.getfield 12, 3) := by decide +kernel
theorem dX7_canGo_11 : decode cX7_canGo 11 = .ok (.iload_n 1, 1) := by decide +kernel
theorem dX7_canGo_12 : decode cX7_canGo 12 = .ok (.iload_n 2, 1) := by decide +kernel
theorem dX7_canGo_13 : decode cX7_canGo 13 = .ok (.invokevirtual 214, 3) := by decide +kernel
theorem dX7_canGo_16 : decode cX7_canGo 16 = .ok (.istore 4, 2) := by decide +kernel
theorem dX7_canGo_18 : decode cX7_canGo 18 = .ok (.iload 4, 2) := by decide +kernel
theorem dX7_canGo_20 : decode cX7_canGo 20 = .ok (.iconst (-1), 1) := by decide +kernel
theorem dX7_canGo_21 : decode cX7_canGo 21 = .ok (.if_icmp .eq 36, 3) := by decide +kernel
theorem dX7_canGo_24 : decode cX7_canGo 24 = .ok (.aload_n 0, 1) := by decide +kernel
theorem dX7_canGo_25 : decode cX7_canGo 25 = .ok (.getfield 60, 3) := by decide +kernel
theorem dX7_canGo_28 : decode cX7_canGo 28 = .ok (.iload 4, 2) := by decide +kernel
theorem dX7_canGo_30 : decode cX7_canGo 30 = .ok (.invokevirtual 149, 3) := by decide +kernel
theorem dX7_canGo_33 : decode cX7_canGo 33 = .ok (.ifCond .ne 24, 3) := by decide +kernel
theorem dX7_canGo_36 : decode cX7_canGo 36 = .ok (.aload_n 0, 1) := by decide +kernel
theorem dX7_canGo_37 : decode cX7_canGo 37 = .ok (.getfield 35, 3) := by decide +kernel
theorem dX7_canGo_40 : decode cX7_canGo 40 = .ok (.iload 4, 2) := by decide +kernel
theorem dX7_canGo_42 : decode cX7_canGo 42 = .ok (.iload_n 2, 1) := by decide +kernel
theorem dX7_canGo_43 : decode cX7_canGo 43 = .ok (.iload_n 3, 1) := by decide +kernel
theorem dX7_canGo_44 : decode cX7_canGo 44 = .ok (.invokestatic 102, 3) := by decide +kernel
theorem dX7_canGo_47 : decode cX7_canGo 47 = .ok (.invokevirtual 162, 3) := by decide +kernel
theorem dX7_canGo_50 : decode cX7_canGo 50 = .ok (.ifCond .le 7, 3) := by decide +kernel
theorem dX7_canGo_53 : decode cX7_canGo 53 = .ok (.iconst 1, 1) := by decide +kernel
theorem dX7_canGo_54 : decode cX7_canGo 54 = .ok (.goto 4, 3) := by decide +kernel
theorem dX7_canGo_57 : decode cX7_canGo 57 = .ok (.iconst 0, 1) := by decide +kernel
theorem dX7_canGo_58 : decode cX7_canGo 58 = .ok (.ireturn, 1) := by decide +kernel
set_option maxRecDepth 20000 in
theorem ggX7_takeTurn_X5_at : GoodIn wsX7_takeTurn wsX5_at := goodIn_r _ [9, 10, 35] (by decide +kernel) (by decide +kernel)
set_option maxRecDepth 20000 in
theorem gX7_takeTurn_X5_at : GoodIn wsX7_takeTurn (wsV RX7 149 RX5 yX5_at wsX5_at) := goodIn_app (goodIn_of _ (by decide +kernel)) ggX7_takeTurn_X5_at
set_option maxRecDepth 20000 in
theorem ggX7_takeTurn_X0_first : GoodIn wsX7_takeTurn wsX0_first := goodIn_r _ [15, 16, 17, 18, 6, 7, 8, 9, 10, 36, 37, 38, 35] (by decide +kernel) (by decide +kernel)
set_option maxRecDepth 20000 in
theorem gX7_takeTurn_X0_first : GoodIn wsX7_takeTurn (wsV RX7 252 RX0 yX0_first wsX0_first) := goodIn_app (goodIn_of _ (by decide +kernel)) ggX7_takeTurn_X0_first
set_option maxRecDepth 20000 in
theorem ggX7_takeTurn_X5_put : GoodIn wsX7_takeTurn wsX5_put := goodIn_r _ [22, 10, 35] (by decide +kernel) (by decide +kernel)
set_option maxRecDepth 20000 in
theorem gX7_takeTurn_X5_put : GoodIn wsX7_takeTurn (wsV RX7 153 RX5 yX5_put wsX5_put) := goodIn_app (goodIn_of _ (by decide +kernel)) ggX7_takeTurn_X5_put
theorem dX7_takeTurn_0 : decode cX7_takeTurn 0 = .ok (.iload_n 1, 1) := by decide +kernel
theorem dX7_takeTurn_1 : decode cX7_takeTurn 1 = .ok (.iconst 5, 1) := by decide +kernel
theorem dX7_takeTurn_2 : decode cX7_takeTurn 2 = .ok (.imul, 1) := by decide +kernel
theorem dX7_takeTurn_3 : decode cX7_takeTurn 3 = .ok (.iload_n 2, 1) := by decide +kernel
theorem dX7_takeTurn_4 : decode cX7_takeTurn 4 = .ok (.iadd, 1) := by decide +kernel
theorem dX7_takeTurn_5 : decode cX7_takeTurn 5 = .ok (.istore 4, 2) := by decide +kernel
theorem dX7_takeTurn_7 : decode cX7_takeTurn 7 = .ok (.aload_n 0, 1) := by decide +kernel
theorem dX7_takeTurn_8 : decode cX7_takeTurn 8 = .ok (.getfield 64, 3) := by decide +kernel
theorem dX7_takeTurn_11 : decode cX7_takeTurn 11 = .ok (.iload 4, 2) := by decide +kernel
theorem dX7_takeTurn_13 : decode cX7_takeTurn 13 = .ok (.invokevirtual 149, 3) := by decide +kernel
theorem dX7_takeTurn_16 : decode cX7_takeTurn 16 = .ok (.istore 5, 2) := by decide +kernel
theorem dX7_takeTurn_18 : decode cX7_takeTurn 18 = .ok (.iconst 0, 1) := by decide +kernel
theorem dX7_takeTurn_19 : decode cX7_takeTurn 19 = .ok (.istore 6, 2) := by decide +kernel
theorem dX7_takeTurn_21 : decode cX7_takeTurn 21 = .ok (.iload 6, 2) := by decide +kernel
theorem dX7_takeTurn_23 : decode cX7_takeTurn 23 = .ok (.bipush 10, 2) := by decide +kernel
theorem dX7_takeTurn_25 : decode cX7_takeTurn 25 = .ok (.if_icmp .ge 88, 3) := by decide +kernel
theorem dX7_takeTurn_28 : decode cX7_takeTurn 28 = .ok (.iload 5, 2) := by decide +kernel
theorem dX7_takeTurn_30 : decode cX7_takeTurn 30 = .ok (.iconst 1, 1) := by decide +kernel
theorem dX7_takeTurn_31 : decode cX7_takeTurn 31 = .ok (.iadd, 1) := by decide +kernel
theorem dX7_takeTurn_32 : decode cX7_takeTurn 32 = .ok (.bipush 10, 2) := by decide +kernel
theorem dX7_takeTurn_34 : decode cX7_takeTurn 34 = .ok (.if_icmp .ge 10, 3) := by decide +kernel
theorem dX7_takeTurn_37 : decode cX7_takeTurn 37 = .ok (.iload 5, 2) := by decide +kernel
theorem dX7_takeTurn_39 : decode cX7_takeTurn 39 = .ok (.iconst 1, 1) := by decide +kernel
theorem dX7_takeTurn_40 : decode cX7_takeTurn 40 = .ok (.iadd, 1) := by decide +kernel
theorem dX7_takeTurn_41 : decode cX7_takeTurn 41 = .ok (.goto 4, 3) := by decide +kernel
theorem dX7_takeTurn_44 : decode cX7_takeTurn 44 = .ok (.iconst 0, 1) := by decide +kernel
theorem dX7_takeTurn_45 : decode cX7_takeTurn 45 = .ok (.istore 7, 2) := by decide +kernel
theorem dX7_takeTurn_47 : decode cX7_takeTurn 47 = .ok (.iload_n 3, 1) := by decide +kernel
theorem dX7_takeTurn_48 : decode cX7_takeTurn 48 = .ok (.iload 5, 2) := by decide +kernel
theorem dX7_takeTurn_50 : decode cX7_takeTurn 50 = .ok (.ishr, 1) := by decide +kernel
theorem dX7_takeTurn_51 : decode cX7_takeTurn 51 = .ok (.iconst 1, 1) := by decide +kernel
theorem dX7_takeTurn_52 : decode cX7_takeTurn 52 = .ok (.iand, 1) := by decide +kernel
theorem dX7_takeTurn_53 : decode cX7_takeTurn 53 = .ok (.ifCond .eq 50, 3) := by decide +kernel
theorem dX7_takeTurn_56 : decode cX7_takeTurn 56 = .ok (.aload_n 0, 1) := by decide +kernel
theorem dX7_takeTurn_57 : decode cX7_takeTurn 57 = .ok (.getfield 70, 3) := by decide +kernel
theorem dX7_takeTurn_60 : decode cX7_takeTurn 60 = .ok (.aload_n 0, 1) := by decide +kernel
theorem dX7_takeTurn_61 : decode cX7_takeTurn 61 = .ok (.getfield 240, 3) := by decide +kernel
theorem dX7_takeTurn_64 : decode cX7_takeTurn 64 = .ok (.aload_n 0, 1) := by decide +kernel
theorem dX7_takeTurn_65 : decode cX7_takeTurn 65 = .ok (.getfield 28, 3) := by decide +kernel
theorem dX7_takeTurn_68 : decode cX7_takeTurn 68 = .ok (.iload_n 1, 1) := by decide +kernel
theorem dX7_takeTurn_69 : decode cX7_takeTurn 69 = .ok (.bipush 10, 2) := by decide +kernel
theorem dX7_takeTurn_71 : decode cX7_takeTurn 71 = .ok (.imul, 1) := by decide +kernel
theorem dX7_takeTurn_72 : decode cX7_takeTurn 72 = .ok (.iload 5, 2) := by decide +kernel
theorem dX7_takeTurn_74 : decode cX7_takeTurn 74 = .ok (.iadd, 1) := by decide +kernel
theorem dX7_takeTurn_75 : decode cX7_takeTurn 75 = .ok (.invokevirtual 252, 3) := by decide +kernel
theorem dX7_takeTurn_78 : decode cX7_takeTurn 78 = .ok (.invokevirtual 153, 3) := by decide +kernel
theorem dX7_takeTurn_81 : decode cX7_takeTurn 81 = .ok (.aload_n 0, 1) := by decide +kernel
theorem dX7_takeTurn_82 : decode cX7_takeTurn 82 = .ok (.dup, 1) := by decide +kernel
theorem dX7_takeTurn_83 : decode cX7_takeTurn 83 = .ok (.getfield 240, 3) := by decide +kernel
theorem dX7_takeTurn_86 : decode cX7_takeTurn 86 = .ok (.iconst 1, 1) := by decide +kernel
theorem dX7_takeTurn_87 : decode cX7_takeTurn 87 = .ok (.iadd, 1) := by decide +kernel
theorem dX7_takeTurn_88 : decode cX7_takeTurn 88 = .ok (.putfield 240, 3) := by decide +kernel
theorem dX7_takeTurn_91 : decode cX7_takeTurn 91 = .ok (.aload_n 0, 1) := by decide +kernel
theorem dX7_takeTurn_92 : decode cX7_takeTurn 92 = .ok (.getfield 64, 3) := by decide +kernel
theorem dX7_takeTurn_95 : decode cX7_takeTurn 95 = .ok (.iload 4, 2) := by decide +kernel
theorem dX7_takeTurn_97 : decode cX7_takeTurn 97 = .ok (.iload 7, 2) := by decide +kernel
theorem dX7_takeTurn_99 : decode cX7_takeTurn 99 = .ok (.invokevirtual 153, 3) := by decide +kernel
theorem dX7_takeTurn_102 : decode cX7_takeTurn 102 = .ok (.return_, 1) := by decide +kernel
theorem dX7_takeTurn_103 : decode cX7_takeTurn 103 = .ok (.iload 7, 2) := by decide +kernel
theorem dX7_takeTurn_105 : decode cX7_takeTurn 105 = .ok (.istore 5, 2) := by decide +kernel
theorem dX7_takeTurn_107 : decode cX7_takeTurn 107 = .ok (.iinc 6 1, 3) := by decide +kernel
theorem dX7_takeTurn_110 : decode cX7_takeTurn 110 = .ok (.goto (-89), 3) := by decide +kernel
theorem dX7_takeTurn_113 : decode cX7_takeTurn 113 = .ok (.return_, 1) := by decide +kernel
set_option maxRecDepth 20000 in
theorem ggX7_move_X4_outputOf : GoodIn wsX7_move wsX4_outputOf := goodIn_r _ [11, 12, 13, 14, 15, 16, 17, 18, 19, 20, 21, 22, 23, 24, 25, 26, 27, 28, 29, 30, 31, 32, 128, 129, 130, 131, 132, 133, 134, 135, 136, 137, 138, 139, 140, 141, 142, 143] (by decide +kernel) (by decide +kernel)
set_option maxRecDepth 20000 in
theorem gX7_move_X4_outputOf : GoodIn wsX7_move (wsV RX7 196 RX4 yX4_outputOf wsX4_outputOf) := goodIn_app (goodIn_of _ (by decide +kernel)) ggX7_move_X4_outputOf
set_option maxRecDepth 20000 in
theorem ggX7_move_X5_at : GoodIn wsX7_move wsX5_at := goodIn_r _ [20, 21, 139] (by decide +kernel) (by decide +kernel)
set_option maxRecDepth 20000 in
theorem gX7_move_X5_at : GoodIn wsX7_move (wsV RX7 149 RX5 yX5_at wsX5_at) := goodIn_app (goodIn_of _ (by decide +kernel)) ggX7_move_X5_at
set_option maxRecDepth 20000 in
theorem ggX7_move_X7_bufferOf : GoodIn wsX7_move wsX7_bufferOf := goodIn_r _ [37] (by decide +kernel) (by decide +kernel)
set_option maxRecDepth 20000 in
theorem gX7_move_X7_bufferOf : GoodIn wsX7_move (va_wsS RX7 102 yX7_bufferOf wsX7_bufferOf) := goodIn_app (goodIn_of _ (by decide +kernel)) ggX7_move_X7_bufferOf
set_option maxRecDepth 20000 in
theorem ggX7_move_X0_removeFirst : GoodIn wsX7_move wsX0_removeFirst := goodIn_r _ [42, 43, 44, 45, 17, 18, 19, 20, 21, 46, 47, 48, 49, 50, 51, 52, 53, 54, 55, 144, 145, 146, 139] (by decide +kernel) (by decide +kernel)
set_option maxRecDepth 20000 in
theorem gX7_move_X0_removeFirst : GoodIn wsX7_move (wsV RX7 269 RX0 yX0_removeFirst wsX0_removeFirst) := goodIn_app (goodIn_of _ (by decide +kernel)) ggX7_move_X0_removeFirst
set_option maxRecDepth 20000 in
theorem ggX7_move_X2_giveBack : GoodIn wsX7_move wsX2_giveBack := goodIn_r _ [60, 61, 62, 63, 64, 65, 59, 66, 67, 51, 52, 19, 53, 54, 17, 18, 20, 21, 55, 47, 48, 49, 147, 148, 149, 150, 139] (by decide +kernel) (by decide +kernel)
set_option maxRecDepth 20000 in
theorem gX7_move_X2_giveBack : GoodIn wsX7_move (wsV RX7 272 RX2 yX2_giveBack wsX2_giveBack) := goodIn_app (goodIn_of _ (by decide +kernel)) ggX7_move_X2_giveBack
set_option maxRecDepth 20000 in
theorem ggX7_move_X4_goOut : GoodIn wsX7_move wsX4_goOut := goodIn_r _ [71, 12, 72, 73, 47, 48, 19, 49, 21, 128, 129, 130, 131, 132, 133, 134, 135, 136, 137, 138, 139] (by decide +kernel) (by decide +kernel)
set_option maxRecDepth 20000 in
theorem gX7_move_X4_goOut : GoodIn wsX7_move (wsV RX7 275 RX4 yX4_goOut wsX4_goOut) := goodIn_app (goodIn_of _ (by decide +kernel)) ggX7_move_X4_goOut
set_option maxRecDepth 20000 in
theorem ggX7_move_X6_adapt : GoodIn wsX7_move wsX6_adapt := goodIn_r _ [78, 79, 80, 81, 82, 83, 84, 85, 86, 87, 17, 18, 19, 20, 21, 88, 47, 48, 49, 151, 152, 139] (by decide +kernel) (by decide +kernel)
set_option maxRecDepth 20000 in
theorem gX7_move_X6_adapt : GoodIn wsX7_move (wsV RX7 281 RX6 yX6_adapt wsX6_adapt) := goodIn_app (goodIn_of _ (by decide +kernel)) ggX7_move_X6_adapt
set_option maxRecDepth 20000 in
theorem ggX7_move_X3_behind : GoodIn wsX7_move wsX3_behind := goodIn_r _ [92, 27, 93, 28, 94, 29, 17, 18, 19, 20, 21, 140, 141, 142, 143, 139] (by decide +kernel) (by decide +kernel)
set_option maxRecDepth 20000 in
theorem gX7_move_X3_behind : GoodIn wsX7_move (wsV RX7 214 RX3 yX3_behind wsX3_behind) := goodIn_app (goodIn_of _ (by decide +kernel)) ggX7_move_X3_behind
set_option maxRecDepth 20000 in
theorem ggX7_move_X2_take : GoodIn wsX7_move wsX2_take := goodIn_r _ [98, 99, 67, 51, 52, 19, 53, 54, 17, 18, 20, 21, 55, 47, 48, 49, 147, 148, 149, 150, 139] (by decide +kernel) (by decide +kernel)
set_option maxRecDepth 20000 in
theorem gX7_move_X2_take : GoodIn wsX7_move (wsV RX7 167 RX2 yX2_take wsX2_take) := goodIn_app (goodIn_of _ (by decide +kernel)) ggX7_move_X2_take
set_option maxRecDepth 20000 in
theorem ggX7_move_X0_append : GoodIn wsX7_move wsX0_append := goodIn_r _ [103, 44, 43, 104, 105, 106, 41, 107, 108, 45, 17, 18, 19, 20, 21, 46, 47, 48, 49, 50, 51, 52, 53, 54, 55, 144, 145, 146, 139] (by decide +kernel) (by decide +kernel)
set_option maxRecDepth 20000 in
theorem gX7_move_X0_append : GoodIn wsX7_move (wsV RX7 134 RX0 yX0_append wsX0_append) := goodIn_app (goodIn_of _ (by decide +kernel)) ggX7_move_X0_append
set_option maxRecDepth 20000 in
theorem ggX7_move_X4_goOver : GoodIn wsX7_move wsX4_goOver := goodIn_r _ [112, 12, 113, 114, 73, 47, 48, 19, 49, 21, 115, 51, 52, 53, 54, 17, 18, 20, 55, 128, 129, 130, 131, 132, 133, 134, 135, 136, 137, 138, 139] (by decide +kernel) (by decide +kernel)
set_option maxRecDepth 20000 in
theorem gX7_move_X4_goOver : GoodIn wsX7_move (wsV RX7 285 RX4 yX4_goOver wsX4_goOver) := goodIn_app (goodIn_of _ (by decide +kernel)) ggX7_move_X4_goOver
theorem dX7_move_0 : decode cX7_move 0 = .ok (.aload_n 0, 1) := by decide +kernel
theorem dX7_move_1 : decode cX7_move 1 = .ok (.getfield 21, 3) := by decide +kernel
theorem dX7_move_4 : decode cX7_move 4 = .ok (.iload_n 1, 1) := by decide +kernel
theorem dX7_move_5 : decode cX7_move 5 = .ok (.invokevirtual 196, 3) := by decide +kernel
theorem dX7_move_8 : decode cX7_move 8 = .ok (.istore_n 2, 1) := by decide +kernel
theorem dX7_move_9 : decode cX7_move 9 = .ok (.aload_n 0, 1) := by decide +kernel
theorem dX7_move_10 : decode cX7_move 10 = .ok (.getfield 21, 3) := by decide +kernel
theorem dX7_move_13 : decode cX7_move 13 = .ok (.getfield 187, 3) := by decide +kernel
theorem dX7_move_16 : decode cX7_move 16 = .ok (.iload_n 1, 1) := by decide +kernel
theorem dX7_move_17 : decode cX7_move 17 = .ok (.invokevirtual 149, 3) := by decide +kernel
theorem dX7_move_20 : decode cX7_move 20 = .ok (.istore_n 3, 1) := by decide +kernel
theorem dX7_move_21 : decode cX7_move 21 = .ok (.aload_n 0, 1) := by decide +kernel
theorem dX7_move_22 : decode cX7_move 22 = .ok (.getfield 21, 3) := by decide +kernel
theorem dX7_move_25 : decode cX7_move 25 = .ok (.getfield 266, 3) := by decide +kernel
theorem dX7_move_28 : decode cX7_move 28 = .ok (.iload_n 1, 1) := by decide +kernel
theorem dX7_move_29 : decode cX7_move 29 = .ok (.invokevirtual 149, 3) := by decide +kernel
theorem dX7_move_32 : decode cX7_move 32 = .ok (.istore 4, 2) := by decide +kernel
theorem dX7_move_34 : decode cX7_move 34 = .ok (.aload_n 0, 1) := by decide +kernel
theorem dX7_move_35 : decode cX7_move 35 = .ok (.getfield 21, 3) := by decide +kernel
theorem dX7_move_38 : decode cX7_move 38 = .ok (.getfield 255, 3) := by decide +kernel
theorem dX7_move_41 : decode cX7_move 41 = .ok (.iload_n 1, 1) := by decide +kernel
theorem dX7_move_42 : decode cX7_move 42 = .ok (.invokevirtual 149, 3) := by decide +kernel
theorem dX7_move_45 : decode cX7_move 45 = .ok (.istore 5, 2) := by decide +kernel
theorem dX7_move_47 : decode cX7_move 47 = .ok (.aload_n 0, 1) := by decide +kernel
theorem dX7_move_48 : decode cX7_move 48 = .ok (.getfield 28, 3) := by decide +kernel
theorem dX7_move_51 : decode cX7_move 51 = .ok (.iload_n 3, 1) := by decide +kernel
theorem dX7_move_52 : decode cX7_move 52 = .ok (.iload 4, 2) := by decide +kernel
theorem dX7_move_54 : decode cX7_move 54 = .ok (.iload 5, 2) := by decide +kernel
theorem dX7_move_56 : decode cX7_move 56 = .ok (.invokestatic 102, 3) := by decide +kernel
theorem dX7_move_59 : decode cX7_move 59 = .ok (.invokevirtual 269, 3) := by decide +kernel
theorem dX7_move_62 : decode cX7_move 62 = .ok (.iload 4, 2) := by decide +kernel
theorem dX7_move_64 : decode cX7_move 64 = .ok (.iconst 4, 1) := by decide +kernel
theorem dX7_move_65 : decode cX7_move 65 = .ok (.if_icmp .eq 22, 3) := by decide +kernel
theorem dX7_move_68 : decode cX7_move 68 = .ok (.aload_n 0, 1) := by decide +kernel
theorem dX7_move_69 : decode cX7_move 69 = .ok (.getfield 35, 3) := by decide +kernel
theorem dX7_move_72 : decode cX7_move 72 = .ok (.iload_n 3, 1) := by decide +kernel
theorem dX7_move_73 : decode cX7_move 73 = .ok (.iload 4, 2) := by decide +kernel
theorem dX7_move_75 : decode cX7_move 75 = .ok (.iload 5, 2) := by decide +kernel
theorem dX7_move_77 : decode cX7_move 77 = .ok (.invokestatic 102, 3) := by decide +kernel
theorem dX7_move_80 : decode cX7_move 80 = .ok (.aload_n 0, 1) := by decide +kernel
theorem dX7_move_81 : decode cX7_move 81 = .ok (.getfield 115, 3) := by decide +kernel
theorem dX7_move_84 : decode cX7_move 84 = .ok (.invokevirtual 272, 3) := by decide +kernel
theorem dX7_move_87 : decode cX7_move 87 = .ok (.iload_n 2, 1) := by decide +kernel
theorem dX7_move_88 : decode cX7_move 88 = .ok (.iconst 4, 1) := by decide +kernel
theorem dX7_move_89 : decode cX7_move 89 = .ok (.if_icmp .ne 49, 3) := by decide +kernel
theorem dX7_move_92 : decode cX7_move 92 = .ok (.aload_n 0, 1) := by decide +kernel
theorem dX7_move_93 : decode cX7_move 93 = .ok (.getfield 21, 3) := by decide +kernel
theorem dX7_move_96 : decode cX7_move 96 = .ok (.iload_n 1, 1) := by decide +kernel
theorem dX7_move_97 : decode cX7_move 97 = .ok (.invokevirtual 275, 3) := by decide +kernel
theorem dX7_move_100 : decode cX7_move 100 = .ok (.aload_n 0, 1) := by decide +kernel
theorem dX7_move_101 : decode cX7_move 101 = .ok (.getfield 42, 3) := by decide +kernel
theorem dX7_move_104 : decode cX7_move 104 = .ok (.aload_n 0, 1) := by decide +kernel
theorem dX7_move_105 : decode cX7_move 105 = .ok (.getfield 21, 3) := by decide +kernel
theorem dX7_move_108 : decode cX7_move 108 = .ok (.getfield 278, 3) := by decide +kernel
theorem dX7_move_111 : decode cX7_move 111 = .ok (.iload_n 1, 1) := by decide +kernel
theorem dX7_move_112 : decode cX7_move 112 = .ok (.invokevirtual 149, 3) := by decide +kernel
theorem dX7_move_115 : decode cX7_move 115 = .ok (.aload_n 0, 1) := by decide +kernel
theorem dX7_move_116 : decode cX7_move 116 = .ok (.getfield 21, 3) := by decide +kernel
theorem dX7_move_119 : decode cX7_move 119 = .ok (.getfield 193, 3) := by decide +kernel
theorem dX7_move_122 : decode cX7_move 122 = .ok (.iload_n 1, 1) := by decide +kernel
theorem dX7_move_123 : decode cX7_move 123 = .ok (.invokevirtual 149, 3) := by decide +kernel
theorem dX7_move_126 : decode cX7_move 126 = .ok (.ifCond .eq 7, 3) := by decide +kernel
theorem dX7_move_129 : decode cX7_move 129 = .ok (.iconst 1, 1) := by decide +kernel
theorem dX7_move_130 : decode cX7_move 130 = .ok (.goto 4, 3) := by decide +kernel
theorem dX7_move_133 : decode cX7_move 133 = .ok (.iconst 0, 1) := by decide +kernel
theorem dX7_move_134 : decode cX7_move 134 = .ok (.invokevirtual 281, 3) := by decide +kernel
theorem dX7_move_137 : decode cX7_move 137 = .ok (.return_, 1) := by decide +kernel
theorem dX7_move_138 : decode cX7_move 138 = .ok (.aload_n 0, 1) := by decide +kernel
theorem dX7_move_139 : decode cX7_move 139 = .ok (.getfield 12, 3) := by decide +kernel
theorem dX7_move_142 : decode cX7_move 142 = .ok (.iload_n 3, 1) := by decide +kernel
theorem dX7_move_143 : decode cX7_move 143 = .ok (.iload_n 2, 1) := by decide +kernel
theorem dX7_move_144 : decode cX7_move 144 = .ok (.invokevirtual 214, 3) := by decide +kernel
theorem dX7_move_147 : decode cX7_move 147 = .ok (.istore 6, 2) := by decide +kernel
theorem dX7_move_149 : decode cX7_move 149 = .ok (.aload_n 0, 1) := by decide +kernel
theorem dX7_move_150 : decode cX7_move 150 = .ok (.getfield 35, 3) := by decide +kernel
theorem dX7_move_153 : decode cX7_move 153 = .ok (.iload 6, 2) := by decide +kernel
theorem dX7_move_155 : decode cX7_move 155 = .ok (.iload_n 2, 1) := by decide +kernel
theorem dX7_move_156 : decode cX7_move 156 = .ok (.iload 5, 2) := by decide +kernel
theorem dX7_move_158 : decode cX7_move 158 = .ok (.invokestatic 102, 3) := by decide +kernel
theorem dX7_move_161 : decode cX7_move 161 = .ok (.invokevirtual 167, 3) := by decide +kernel
theorem dX7_move_164 : decode cX7_move 164 = .ok (.aload_n 0, 1) := by decide +kernel
theorem dX7_move_165 : decode cX7_move 165 = .ok (.getfield 28, 3) := by decide +kernel
theorem dX7_move_168 : decode cX7_move 168 = .ok (.iload 6, 2) := by decide +kernel
theorem dX7_move_170 : decode cX7_move 170 = .ok (.iload_n 2, 1) := by decide +kernel
theorem dX7_move_171 : decode cX7_move 171 = .ok (.iload 5, 2) := by decide +kernel
theorem dX7_move_173 : decode cX7_move 173 = .ok (.invokestatic 102, 3) := by decide +kernel
theorem dX7_move_176 : decode cX7_move 176 = .ok (.iload_n 1, 1) := by decide +kernel
theorem dX7_move_177 : decode cX7_move 177 = .ok (.invokevirtual 134, 3) := by decide +kernel
theorem dX7_move_180 : decode cX7_move 180 = .ok (.aload_n 0, 1) := by decide +kernel
theorem dX7_move_181 : decode cX7_move 181 = .ok (.getfield 21, 3) := by decide +kernel
theorem dX7_move_184 : decode cX7_move 184 = .ok (.iload_n 1, 1) := by decide +kernel
theorem dX7_move_185 : decode cX7_move 185 = .ok (.iload 6, 2) := by decide +kernel
theorem dX7_move_187 : decode cX7_move 187 = .ok (.iload_n 2, 1) := by decide +kernel
theorem dX7_move_188 : decode cX7_move 188 = .ok (.invokevirtual 285, 3) := by decide +kernel
theorem dX7_move_191 : decode cX7_move 191 = .ok (.return_, 1) := by decide +kernel
set_option maxRecDepth 20000 in
theorem ggX7_markInCrowd_X5_at : GoodIn wsX7_markInCrowd wsX5_at := goodIn_r _ [7, 8, 43] (by decide +kernel) (by decide +kernel)
set_option maxRecDepth 20000 in
theorem gX7_markInCrowd_X5_at : GoodIn wsX7_markInCrowd (wsV RX7 149 RX5 yX5_at wsX5_at) := goodIn_app (goodIn_of _ (by decide +kernel)) ggX7_markInCrowd_X5_at
set_option maxRecDepth 20000 in
theorem ggX7_markInCrowd_X0_load : GoodIn wsX7_markInCrowd wsX0_load := goodIn_r _ [13, 14, 15, 4, 5, 6, 7, 8, 44, 45, 46, 43] (by decide +kernel) (by decide +kernel)
set_option maxRecDepth 20000 in
theorem gX7_markInCrowd_X0_load : GoodIn wsX7_markInCrowd (wsV RX7 288 RX0 yX0_load wsX0_load) := goodIn_app (goodIn_of _ (by decide +kernel)) ggX7_markInCrowd_X0_load
set_option maxRecDepth 20000 in
theorem ggX7_markInCrowd_X5_put : GoodIn wsX7_markInCrowd wsX5_put := goodIn_r _ [19, 8, 43] (by decide +kernel) (by decide +kernel)
set_option maxRecDepth 20000 in
theorem gX7_markInCrowd_X5_put : GoodIn wsX7_markInCrowd (wsV RX7 153 RX5 yX5_put wsX5_put) := goodIn_app (goodIn_of _ (by decide +kernel)) ggX7_markInCrowd_X5_put
theorem dX7_markInCrowd_0 : decode cX7_markInCrowd 0 = .ok (.aload_n 0, 1) := by decide +kernel
theorem dX7_markInCrowd_1 : decode cX7_markInCrowd 1 = .ok (.getfield 21, 3) := by decide +kernel
theorem dX7_markInCrowd_4 : decode cX7_markInCrowd 4 = .ok (.getfield 187, 3) := by decide +kernel
theorem dX7_markInCrowd_7 : decode cX7_markInCrowd 7 = .ok (.iload_n 1, 1) := by decide +kernel
theorem dX7_markInCrowd_8 : decode cX7_markInCrowd 8 = .ok (.invokevirtual 149, 3) := by decide +kernel
theorem dX7_markInCrowd_11 : decode cX7_markInCrowd 11 = .ok (.istore_n 2, 1) := by decide +kernel
theorem dX7_markInCrowd_12 : decode cX7_markInCrowd 12 = .ok (.iload_n 2, 1) := by decide +kernel
theorem dX7_markInCrowd_13 : decode cX7_markInCrowd 13 = .ok (.iconst (-1), 1) := by decide +kernel
theorem dX7_markInCrowd_14 : decode cX7_markInCrowd 14 = .ok (.if_icmp .eq 27, 3) := by decide +kernel
theorem dX7_markInCrowd_17 : decode cX7_markInCrowd 17 = .ok (.aload_n 0, 1) := by decide +kernel
theorem dX7_markInCrowd_18 : decode cX7_markInCrowd 18 = .ok (.getfield 28, 3) := by decide +kernel
theorem dX7_markInCrowd_21 : decode cX7_markInCrowd 21 = .ok (.iload_n 2, 1) := by decide +kernel
theorem dX7_markInCrowd_22 : decode cX7_markInCrowd 22 = .ok (.invokevirtual 288, 3) := by decide +kernel
theorem dX7_markInCrowd_25 : decode cX7_markInCrowd 25 = .ok (.iconst 4, 1) := by decide +kernel
theorem dX7_markInCrowd_26 : decode cX7_markInCrowd 26 = .ok (.if_icmp .lt 15, 3) := by decide +kernel
theorem dX7_markInCrowd_29 : decode cX7_markInCrowd 29 = .ok (.aload_n 0, 1) := by decide +kernel
theorem dX7_markInCrowd_30 : decode cX7_markInCrowd 30 = .ok (.getfield 21, 3) := by decide +kernel
theorem dX7_markInCrowd_33 : decode cX7_markInCrowd 33 = .ok (.getfield 193, 3) := by decide +kernel
theorem dX7_markInCrowd_36 : decode cX7_markInCrowd 36 = .ok (.iload_n 1, 1) := by decide +kernel
theorem dX7_markInCrowd_37 : decode cX7_markInCrowd 37 = .ok (.iconst 1, 1) := by decide +kernel
theorem dX7_markInCrowd_38 : decode cX7_markInCrowd 38 = .ok (.invokevirtual 153, 3) := by decide +kernel
theorem dX7_markInCrowd_41 : decode cX7_markInCrowd 41 = .ok (.return_, 1) := by decide +kernel
theorem dX7_bufferOf_0 : decode cX7_bufferOf 0 = .ok (.iload_n 0, 1) := by decide +kernel
theorem dX7_bufferOf_1 : decode cX7_bufferOf 1 = .ok (.bipush 10, 2) := by decide +kernel
theorem dX7_bufferOf_3 : decode cX7_bufferOf 3 = .ok (.imul, 1) := by decide +kernel
theorem dX7_bufferOf_4 : decode cX7_bufferOf 4 = .ok (.iconst 2, 1) := by decide +kernel
theorem dX7_bufferOf_5 : decode cX7_bufferOf 5 = .ok (.iload_n 1, 1) := by decide +kernel
theorem dX7_bufferOf_6 : decode cX7_bufferOf 6 = .ok (.imul, 1) := by decide +kernel
theorem dX7_bufferOf_7 : decode cX7_bufferOf 7 = .ok (.iadd, 1) := by decide +kernel
theorem dX7_bufferOf_8 : decode cX7_bufferOf 8 = .ok (.iload_n 2, 1) := by decide +kernel
theorem dX7_bufferOf_9 : decode cX7_bufferOf 9 = .ok (.iadd, 1) := by decide +kernel
theorem dX7_bufferOf_10 : decode cX7_bufferOf 10 = .ok (.ireturn, 1) := by decide +kernel
set_option maxRecDepth 20000 in
theorem ggX7_bufferBehind_X3_behind : GoodIn wsX7_bufferBehind wsX3_behind := goodIn_r _ [6, 7, 8, 9, 10, 11, 12, 13, 14, 15, 16, 33, 34, 35, 36, 37] (by decide +kernel) (by decide +kernel)
set_option maxRecDepth 20000 in
theorem gX7_bufferBehind_X3_behind : GoodIn wsX7_bufferBehind (wsV RX7 214 RX3 yX3_behind wsX3_behind) := goodIn_app (goodIn_of _ (by decide +kernel)) ggX7_bufferBehind_X3_behind
set_option maxRecDepth 20000 in
theorem ggX7_bufferBehind_X7_bufferOf : GoodIn wsX7_bufferBehind wsX7_bufferOf := goodIn_r _ [20] (by decide +kernel) (by decide +kernel)
set_option maxRecDepth 20000 in
theorem gX7_bufferBehind_X7_bufferOf : GoodIn wsX7_bufferBehind (va_wsS RX7 102 yX7_bufferOf wsX7_bufferOf) := goodIn_app (goodIn_of _ (by decide +kernel)) ggX7_bufferBehind_X7_bufferOf
theorem dX7_bufferBehind_0 : decode cX7_bufferBehind 0 = .ok (.aload_n 0, 1) := by decide +kernel
theorem dX7_bufferBehind_1 : decode cX7_bufferBehind 1 = .ok (.getfield 12, 3) := by decide +kernel
theorem dX7_bufferBehind_4 : decode cX7_bufferBehind 4 = .ok (.iload_n 1, 1) := by decide +kernel
theorem dX7_bufferBehind_5 : decode cX7_bufferBehind 5 = .ok (.iload_n 2, 1) := by decide +kernel
theorem dX7_bufferBehind_6 : decode cX7_bufferBehind 6 = .ok (.invokevirtual 214, 3) := by decide +kernel
theorem dX7_bufferBehind_9 : decode cX7_bufferBehind 9 = .ok (.iload_n 2, 1) := by decide +kernel
theorem dX7_bufferBehind_10 : decode cX7_bufferBehind 10 = .ok (.iload_n 3, 1) := by decide +kernel
theorem dX7_bufferBehind_11 : decode cX7_bufferBehind 11 = .ok (.invokestatic 102, 3) := by decide +kernel
theorem dX7_bufferBehind_14 : decode cX7_bufferBehind 14 = .ok (.ireturn, 1) := by decide +kernel
set_option maxRecDepth 20000 in
theorem ggX8_init_X8_begins : GoodIn wsX8_init wsX8_begins := goodIn_r _ [31, 4, 5, 6, 32, 33, 34, 35, 9, 10, 11, 12, 13, 14, 16, 36, 37, 38, 39, 40, 41, 42, 43, 44, 45, 46, 47, 48, 49, 50, 51, 52, 53, 54, 55, 56, 57, 58, 59, 60, 61] (by decide +kernel) (by decide +kernel)
set_option maxRecDepth 20000 in
theorem gX8_init_X8_begins : GoodIn wsX8_init (wsV RX8 75 RX8 yX8_begins wsX8_begins) := goodIn_app (goodIn_of _ (by decide +kernel)) ggX8_init_X8_begins
theorem dX8_init_0 : decode cX8_init 0 = .ok (.aload_n 0, 1) := by decide +kernel
theorem dX8_init_1 : decode cX8_init 1 = .ok (.invokespecial 1, 3) := by decide +kernel
theorem dX8_init_4 : decode cX8_init 4 = .ok (.aload_n 0, 1) := by decide +kernel
theorem dX8_init_5 : decode cX8_init 5 = .ok (.iconst 2, 1) := by decide +kernel
theorem dX8_init_6 : decode cX8_init 6 = .ok (.putfield 7, 3) := by decide +kernel
theorem dX8_init_9 : decode cX8_init 9 = .ok (.aload_n 0, 1) := by decide +kernel
theorem dX8_init_10 : decode cX8_init 10 = .ok (.iconst 2, 1) := by decide +kernel
theorem dX8_init_11 : decode cX8_init 11 = .ok (.putfield 13, 3) := by decide +kernel
theorem dX8_init_14 : decode cX8_init 14 = .ok (.aload_n 0, 1) := by decide +kernel
theorem dX8_init_15 : decode cX8_init 15 = .ok (.iconst 1, 1) := by decide +kernel
theorem dX8_init_16 : decode cX8_init 16 = .ok (.putfield 16, 3) := by decide +kernel
theorem dX8_init_19 : decode cX8_init 19 = .ok (.aload_n 0, 1) := by decide +kernel
theorem dX8_init_20 : decode cX8_init 20 = .ok (.sipush 480, 3) := by decide +kernel
theorem dX8_init_23 : decode cX8_init 23 = .ok (.newarray .int, 2) := by decide +kernel
theorem dX8_init_25 : decode cX8_init 25 = .ok (.putfield 19, 3) := by decide +kernel
theorem dX8_init_28 : decode cX8_init 28 = .ok (.aload_n 0, 1) := by decide +kernel
theorem dX8_init_29 : decode cX8_init 29 = .ok (.sipush 160, 3) := by decide +kernel
theorem dX8_init_32 : decode cX8_init 32 = .ok (.newarray .int, 2) := by decide +kernel
theorem dX8_init_34 : decode cX8_init 34 = .ok (.putfield 23, 3) := by decide +kernel
theorem dX8_init_37 : decode cX8_init 37 = .ok (.aload_n 0, 1) := by decide +kernel
theorem dX8_init_38 : decode cX8_init 38 = .ok (.sipush 128, 3) := by decide +kernel
theorem dX8_init_41 : decode cX8_init 41 = .ok (.newarray .int, 2) := by decide +kernel
theorem dX8_init_43 : decode cX8_init 43 = .ok (.putfield 26, 3) := by decide +kernel
theorem dX8_init_46 : decode cX8_init 46 = .ok (.aload_n 0, 1) := by decide +kernel
theorem dX8_init_47 : decode cX8_init 47 = .ok (.sipush 640, 3) := by decide +kernel
theorem dX8_init_50 : decode cX8_init 50 = .ok (.newarray .int, 2) := by decide +kernel
theorem dX8_init_52 : decode cX8_init 52 = .ok (.putfield 29, 3) := by decide +kernel
theorem dX8_init_55 : decode cX8_init 55 = .ok (.aload_n 0, 1) := by decide +kernel
theorem dX8_init_56 : decode cX8_init 56 = .ok (.bipush 80, 2) := by decide +kernel
theorem dX8_init_58 : decode cX8_init 58 = .ok (.newarray .int, 2) := by decide +kernel
theorem dX8_init_60 : decode cX8_init 60 = .ok (.putfield 32, 3) := by decide +kernel
theorem dX8_init_63 : decode cX8_init 63 = .ok (.aload_n 0, 1) := by decide +kernel
theorem dX8_init_64 : decode cX8_init 64 = .ok (.bipush 16, 2) := by decide +kernel
theorem dX8_init_66 : decode cX8_init 66 = .ok (.newarray .int, 2) := by decide +kernel
theorem dX8_init_68 : decode cX8_init 68 = .ok (.putfield 35, 3) := by decide +kernel
theorem dX8_init_71 : decode cX8_init 71 = .ok (.aload_n 0, 1) := by decide +kernel
theorem dX8_init_72 : decode cX8_init 72 = .ok (.bipush 16, 2) := by decide +kernel
theorem dX8_init_74 : decode cX8_init 74 = .ok (.newarray .int, 2) := by decide +kernel
theorem dX8_init_76 : decode cX8_init 76 = .ok (.putfield 38, 3) := by decide +kernel
theorem dX8_init_79 : decode cX8_init 79 = .ok (.aload_n 0, 1) := by decide +kernel
theorem dX8_init_80 : decode cX8_init 80 = .ok (.bipush 16, 2) := by decide +kernel
theorem dX8_init_82 : decode cX8_init 82 = .ok (.newarray .boolean, 2) := by decide +kernel
theorem dX8_init_84 : decode cX8_init 84 = .ok (.putfield 41, 3) := by decide +kernel
theorem dX8_init_87 : decode cX8_init 87 = .ok (.aload_n 0, 1) := by decide +kernel
theorem dX8_init_88 : decode cX8_init 88 = .ok (.bipush 80, 2) := by decide +kernel
theorem dX8_init_90 : decode cX8_init 90 = .ok (.newarray .int, 2) := by decide +kernel
theorem dX8_init_92 : decode cX8_init 92 = .ok (.putfield 45, 3) := by decide +kernel
theorem dX8_init_95 : decode cX8_init 95 = .ok (.aload_n 0, 1) := by decide +kernel
theorem dX8_init_96 : decode cX8_init 96 = .ok (.bipush 80, 2) := by decide +kernel
theorem dX8_init_98 : decode cX8_init 98 = .ok (.newarray .int, 2) := by decide +kernel
theorem dX8_init_100 : decode cX8_init 100 = .ok (.putfield 48, 3) := by decide +kernel
theorem dX8_init_103 : decode cX8_init 103 = .ok (.aload_n 0, 1) := by decide +kernel
theorem dX8_init_104 : decode cX8_init 104 = .ok (.bipush 80, 2) := by decide +kernel
theorem dX8_init_106 : decode cX8_init 106 = .ok (.newarray .int, 2) := by decide +kernel
theorem dX8_init_108 : decode cX8_init 108 = .ok (.putfield 51, 3) := by decide +kernel
theorem dX8_init_111 : decode cX8_init 111 = .ok (.aload_n 0, 1) := by decide +kernel
theorem dX8_init_112 : decode cX8_init 112 = .ok (.bipush 80, 2) := by decide +kernel
theorem dX8_init_114 : decode cX8_init 114 = .ok (.newarray .int, 2) := by decide +kernel
theorem dX8_init_116 : decode cX8_init 116 = .ok (.putfield 54, 3) := by decide +kernel
theorem dX8_init_119 : decode cX8_init 119 = .ok (.aload_n 0, 1) := by decide +kernel
theorem dX8_init_120 : decode cX8_init 120 = .ok (.bipush 80, 2) := by decide +kernel
theorem dX8_init_122 : decode cX8_init 122 = .ok (.newarray .int, 2) := by decide +kernel
theorem dX8_init_124 : decode cX8_init 124 = .ok (.putfield 57, 3) := by decide +kernel
theorem dX8_init_127 : decode cX8_init 127 = .ok (.aload_n 0, 1) := by decide +kernel
theorem dX8_init_128 : decode cX8_init 128 = .ok (.bipush 80, 2) := by decide +kernel
theorem dX8_init_130 : decode cX8_init 130 = .ok (.newarray .int, 2) := by decide +kernel
theorem dX8_init_132 : decode cX8_init 132 = .ok (.putfield 60, 3) := by decide +kernel
theorem dX8_init_135 : decode cX8_init 135 = .ok (.aload_n 0, 1) := by decide +kernel
theorem dX8_init_136 : decode cX8_init 136 = .ok (.bipush 80, 2) := by decide +kernel
theorem dX8_init_138 : decode cX8_init 138 = .ok (.newarray .boolean, 2) := by decide +kernel
theorem dX8_init_140 : decode cX8_init 140 = .ok (.putfield 63, 3) := by decide +kernel
theorem dX8_init_143 : decode cX8_init 143 = .ok (.aload_n 0, 1) := by decide +kernel
theorem dX8_init_144 : decode cX8_init 144 = .ok (.bipush 80, 2) := by decide +kernel
theorem dX8_init_146 : decode cX8_init 146 = .ok (.newarray .int, 2) := by decide +kernel
theorem dX8_init_148 : decode cX8_init 148 = .ok (.putfield 66, 3) := by decide +kernel
theorem dX8_init_151 : decode cX8_init 151 = .ok (.aload_n 0, 1) := by decide +kernel
theorem dX8_init_152 : decode cX8_init 152 = .ok (.sipush 25600, 3) := by decide +kernel
theorem dX8_init_155 : decode cX8_init 155 = .ok (.newarray .boolean, 2) := by decide +kernel
theorem dX8_init_157 : decode cX8_init 157 = .ok (.putfield 69, 3) := by decide +kernel
theorem dX8_init_160 : decode cX8_init 160 = .ok (.aload_n 0, 1) := by decide +kernel
theorem dX8_init_161 : decode cX8_init 161 = .ok (.sipush 160, 3) := by decide +kernel
theorem dX8_init_164 : decode cX8_init 164 = .ok (.newarray .boolean, 2) := by decide +kernel
theorem dX8_init_166 : decode cX8_init 166 = .ok (.putfield 72, 3) := by decide +kernel
theorem dX8_init_169 : decode cX8_init 169 = .ok (.aload_n 0, 1) := by decide +kernel
theorem dX8_init_170 : decode cX8_init 170 = .ok (.iconst 2, 1) := by decide +kernel
theorem dX8_init_171 : decode cX8_init 171 = .ok (.iconst 2, 1) := by decide +kernel
theorem dX8_init_172 : decode cX8_init 172 = .ok (.iconst 1, 1) := by decide +kernel
theorem dX8_init_173 : decode cX8_init 173 = .ok (.iconst 0, 1) := by decide +kernel
theorem dX8_init_174 : decode cX8_init 174 = .ok (.invokevirtual 75, 3) := by decide +kernel
theorem dX8_init_177 : decode cX8_init 177 = .ok (.return_, 1) := by decide +kernel
theorem dX8_thrown_0 : decode cX8_thrown 0 = .ok (.aload_n 0, 1) := by decide +kernel
theorem dX8_thrown_1 : decode cX8_thrown 1 = .ok (.getfield 79, 3) := by decide +kernel
theorem dX8_thrown_4 : decode cX8_thrown 4 = .ok (.ireturn, 1) := by decide +kernel
theorem dX8_goes_0 : decode cX8_goes 0 = .ok (.aload_n 0, 1) := by decide +kernel
theorem dX8_goes_1 : decode cX8_goes 1 = .ok (.iload_n 1, 1) := by decide +kernel
theorem dX8_goes_2 : decode cX8_goes 2 = .ok (.ifCond .ne 7, 3) := by decide +kernel
theorem dX8_goes_5 : decode cX8_goes 5 = .ok (.iconst 1, 1) := by decide +kernel
theorem dX8_goes_6 : decode cX8_goes 6 = .ok (.goto 20, 3) := by decide +kernel
theorem dX8_goes_9 : decode cX8_goes 9 = .ok (.iload_n 2, 1) := by decide +kernel
theorem dX8_goes_10 : decode cX8_goes 10 = .ok (.ifCond .ne 7, 3) := by decide +kernel
theorem dX8_goes_13 : decode cX8_goes 13 = .ok (.iconst 2, 1) := by decide +kernel
theorem dX8_goes_14 : decode cX8_goes 14 = .ok (.goto 12, 3) := by decide +kernel
theorem dX8_goes_17 : decode cX8_goes 17 = .ok (.iload_n 3, 1) := by decide +kernel
theorem dX8_goes_18 : decode cX8_goes 18 = .ok (.ifCond .ne 7, 3) := by decide +kernel
theorem dX8_goes_21 : decode cX8_goes 21 = .ok (.iconst 3, 1) := by decide +kernel
theorem dX8_goes_22 : decode cX8_goes 22 = .ok (.goto 4, 3) := by decide +kernel
theorem dX8_goes_25 : decode cX8_goes 25 = .ok (.iconst 0, 1) := by decide +kernel
theorem dX8_goes_26 : decode cX8_goes 26 = .ok (.putfield 79, 3) := by decide +kernel
theorem dX8_goes_29 : decode cX8_goes 29 = .ok (.aload_n 0, 1) := by decide +kernel
theorem dX8_goes_30 : decode cX8_goes 30 = .ok (.getfield 79, 3) := by decide +kernel
theorem dX8_goes_33 : decode cX8_goes 33 = .ok (.ifCond .ne 7, 3) := by decide +kernel
theorem dX8_goes_36 : decode cX8_goes 36 = .ok (.iconst 1, 1) := by decide +kernel
theorem dX8_goes_37 : decode cX8_goes 37 = .ok (.goto 4, 3) := by decide +kernel
theorem dX8_goes_40 : decode cX8_goes 40 = .ok (.iconst 0, 1) := by decide +kernel
theorem dX8_goes_41 : decode cX8_goes 41 = .ok (.ireturn, 1) := by decide +kernel
theorem dX8_isWithin_0 : decode cX8_isWithin 0 = .ok (.iload_n 0, 1) := by decide +kernel
theorem dX8_isWithin_1 : decode cX8_isWithin 1 = .ok (.iload_n 1, 1) := by decide +kernel
theorem dX8_isWithin_2 : decode cX8_isWithin 2 = .ok (.if_icmp .lt 12, 3) := by decide +kernel
theorem dX8_isWithin_5 : decode cX8_isWithin 5 = .ok (.iload_n 0, 1) := by decide +kernel
theorem dX8_isWithin_6 : decode cX8_isWithin 6 = .ok (.iload_n 2, 1) := by decide +kernel
theorem dX8_isWithin_7 : decode cX8_isWithin 7 = .ok (.if_icmp .gt 7, 3) := by decide +kernel
theorem dX8_isWithin_10 : decode cX8_isWithin 10 = .ok (.iconst 1, 1) := by decide +kernel
theorem dX8_isWithin_11 : decode cX8_isWithin 11 = .ok (.goto 4, 3) := by decide +kernel
theorem dX8_isWithin_14 : decode cX8_isWithin 14 = .ok (.iconst 0, 1) := by decide +kernel
theorem dX8_isWithin_15 : decode cX8_isWithin 15 = .ok (.ireturn, 1) := by decide +kernel
theorem dX8_isSwitch_0 : decode cX8_isSwitch 0 = .ok (.iload_n 1, 1) := by decide +kernel
theorem dX8_isSwitch_1 : decode cX8_isSwitch 1 = .ok (.ifCond .lt 20, 3) := by decide +kernel
theorem dX8_isSwitch_4 : decode cX8_isSwitch 4 = .ok (.iload_n 1, 1) := by decide +kernel
theorem dX8_isSwitch_5 : decode cX8_isSwitch 5 = .ok (.aload_n 0, 1) := by decide +kernel
theorem dX8_isSwitch_6 : decode cX8_isSwitch 6 = .ok (.getfield 7, 3) := by decide +kernel
theorem dX8_isSwitch_9 : decode cX8_isSwitch 9 = .ok (.aload_n 0, 1) := by decide +kernel
theorem dX8_isSwitch_10 : decode cX8_isSwitch 10 = .ok (.getfield 13, 3) := by decide +kernel
theorem dX8_isSwitch_13 : decode cX8_isSwitch 13 = .ok (.imul, 1) := by decide +kernel
theorem dX8_isSwitch_14 : decode cX8_isSwitch 14 = .ok (.if_icmp .ge 7, 3) := by decide +kernel
theorem dX8_isSwitch_17 : decode cX8_isSwitch 17 = .ok (.iconst 1, 1) := by decide +kernel
theorem dX8_isSwitch_18 : decode cX8_isSwitch 18 = .ok (.goto 4, 3) := by decide +kernel
theorem dX8_isSwitch_21 : decode cX8_isSwitch 21 = .ok (.iconst 0, 1) := by decide +kernel
theorem dX8_isSwitch_22 : decode cX8_isSwitch 22 = .ok (.ireturn, 1) := by decide +kernel
theorem dX8_isPacket_0 : decode cX8_isPacket 0 = .ok (.iload_n 1, 1) := by decide +kernel
theorem dX8_isPacket_1 : decode cX8_isPacket 1 = .ok (.ifCond .lt 15, 3) := by decide +kernel
theorem dX8_isPacket_4 : decode cX8_isPacket 4 = .ok (.iload_n 1, 1) := by decide +kernel
theorem dX8_isPacket_5 : decode cX8_isPacket 5 = .ok (.aload_n 0, 1) := by decide +kernel
theorem dX8_isPacket_6 : decode cX8_isPacket 6 = .ok (.getfield 82, 3) := by decide +kernel
theorem dX8_isPacket_9 : decode cX8_isPacket 9 = .ok (.if_icmp .ge 7, 3) := by decide +kernel
theorem dX8_isPacket_12 : decode cX8_isPacket 12 = .ok (.iconst 1, 1) := by decide +kernel
theorem dX8_isPacket_13 : decode cX8_isPacket 13 = .ok (.goto 4, 3) := by decide +kernel
theorem dX8_isPacket_16 : decode cX8_isPacket 16 = .ok (.iconst 0, 1) := by decide +kernel
theorem dX8_isPacket_17 : decode cX8_isPacket 17 = .ok (.ireturn, 1) := by decide +kernel
theorem dX8_bufferOf_0 : decode cX8_bufferOf 0 = .ok (.iload_n 0, 1) := by decide +kernel
theorem dX8_bufferOf_1 : decode cX8_bufferOf 1 = .ok (.iconst 5, 1) := by decide +kernel
theorem dX8_bufferOf_2 : decode cX8_bufferOf 2 = .ok (.imul, 1) := by decide +kernel
theorem dX8_bufferOf_3 : decode cX8_bufferOf 3 = .ok (.iload_n 1, 1) := by decide +kernel
theorem dX8_bufferOf_4 : decode cX8_bufferOf 4 = .ok (.iadd, 1) := by decide +kernel
theorem dX8_bufferOf_5 : decode cX8_bufferOf 5 = .ok (.iconst 2, 1) := by decide +kernel
theorem dX8_bufferOf_6 : decode cX8_bufferOf 6 = .ok (.imul, 1) := by decide +kernel
theorem dX8_bufferOf_7 : decode cX8_bufferOf 7 = .ok (.iload_n 2, 1) := by decide +kernel
theorem dX8_bufferOf_8 : decode cX8_bufferOf 8 = .ok (.iadd, 1) := by decide +kernel
theorem dX8_bufferOf_9 : decode cX8_bufferOf 9 = .ok (.ireturn, 1) := by decide +kernel
theorem dX8_linkOf_0 : decode cX8_linkOf 0 = .ok (.iload_n 0, 1) := by decide +kernel
theorem dX8_linkOf_1 : decode cX8_linkOf 1 = .ok (.iconst 4, 1) := by decide +kernel
theorem dX8_linkOf_2 : decode cX8_linkOf 2 = .ok (.imul, 1) := by decide +kernel
theorem dX8_linkOf_3 : decode cX8_linkOf 3 = .ok (.iload_n 1, 1) := by decide +kernel
theorem dX8_linkOf_4 : decode cX8_linkOf 4 = .ok (.iadd, 1) := by decide +kernel
theorem dX8_linkOf_5 : decode cX8_linkOf 5 = .ok (.iconst 2, 1) := by decide +kernel
theorem dX8_linkOf_6 : decode cX8_linkOf 6 = .ok (.imul, 1) := by decide +kernel
theorem dX8_linkOf_7 : decode cX8_linkOf 7 = .ok (.iload_n 2, 1) := by decide +kernel
theorem dX8_linkOf_8 : decode cX8_linkOf 8 = .ok (.iadd, 1) := by decide +kernel
theorem dX8_linkOf_9 : decode cX8_linkOf 9 = .ok (.ireturn, 1) := by decide +kernel
theorem dX8_neighbour_0 : decode cX8_neighbour 0 = .ok (.iload_n 1, 1) := by decide +kernel
theorem dX8_neighbour_1 : decode cX8_neighbour 1 = .ok (.aload_n 0, 1) := by decide +kernel
theorem dX8_neighbour_2 : decode cX8_neighbour 2 = .ok (.getfield 7, 3) := by decide +kernel
theorem dX8_neighbour_5 : decode cX8_neighbour 5 = .ok (.irem, 1) := by decide +kernel
theorem dX8_neighbour_6 : decode cX8_neighbour 6 = .ok (.iload_n 2, 1) := by decide +kernel
theorem dX8_neighbour_7 : decode cX8_neighbour 7 = .ok (.ifCond .ne 7, 3) := by decide +kernel
theorem dX8_neighbour_10 : decode cX8_neighbour 10 = .ok (.iconst 1, 1) := by decide +kernel
theorem dX8_neighbour_11 : decode cX8_neighbour 11 = .ok (.goto 13, 3) := by decide +kernel
theorem dX8_neighbour_14 : decode cX8_neighbour 14 = .ok (.iload_n 2, 1) := by decide +kernel
theorem dX8_neighbour_15 : decode cX8_neighbour 15 = .ok (.iconst 2, 1) := by decide +kernel
theorem dX8_neighbour_16 : decode cX8_neighbour 16 = .ok (.if_icmp .ne 7, 3) := by decide +kernel
theorem dX8_neighbour_19 : decode cX8_neighbour 19 = .ok (.iconst (-1), 1) := by decide +kernel
theorem dX8_neighbour_20 : decode cX8_neighbour 20 = .ok (.goto 4, 3) := by decide +kernel
theorem dX8_neighbour_23 : decode cX8_neighbour 23 = .ok (.iconst 0, 1) := by decide +kernel
theorem dX8_neighbour_24 : decode cX8_neighbour 24 = .ok (.iadd, 1) := by decide +kernel
theorem dX8_neighbour_25 : decode cX8_neighbour 25 = .ok (.istore_n 3, 1) := by decide +kernel
theorem dX8_neighbour_26 : decode cX8_neighbour 26 = .ok (.iload_n 1, 1) := by decide +kernel
theorem dX8_neighbour_27 : decode cX8_neighbour 27 = .ok (.aload_n 0, 1) := by decide +kernel
theorem dX8_neighbour_28 : decode cX8_neighbour 28 = .ok (.getfield 7, 3) := by decide +kernel
theorem dX8_neighbour_31 : decode cX8_neighbour 31 = .ok (.idiv, 1) := by decide +kernel
theorem dX8_neighbour_32 : decode cX8_neighbour 32 = .ok (.iload_n 2, 1) := by decide +kernel
theorem dX8_neighbour_33 : decode cX8_neighbour 33 = .ok (.iconst 1, 1) := by decide +kernel
theorem dX8_neighbour_34 : decode cX8_neighbour 34 = .ok (.if_icmp .ne 7, 3) := by decide +kernel
theorem dX8_neighbour_37 : decode cX8_neighbour 37 = .ok (.iconst 1, 1) := by decide +kernel
theorem dX8_neighbour_38 : decode cX8_neighbour 38 = .ok (.goto 13, 3) := by decide +kernel
theorem dX8_neighbour_41 : decode cX8_neighbour 41 = .ok (.iload_n 2, 1) := by decide +kernel
theorem dX8_neighbour_42 : decode cX8_neighbour 42 = .ok (.iconst 3, 1) := by decide +kernel
theorem dX8_neighbour_43 : decode cX8_neighbour 43 = .ok (.if_icmp .ne 7, 3) := by decide +kernel
theorem dX8_neighbour_46 : decode cX8_neighbour 46 = .ok (.iconst (-1), 1) := by decide +kernel
theorem dX8_neighbour_47 : decode cX8_neighbour 47 = .ok (.goto 4, 3) := by decide +kernel
theorem dX8_neighbour_50 : decode cX8_neighbour 50 = .ok (.iconst 0, 1) := by decide +kernel
theorem dX8_neighbour_51 : decode cX8_neighbour 51 = .ok (.iadd, 1) := by decide +kernel
theorem dX8_neighbour_52 : decode cX8_neighbour 52 = .ok (.istore 4, 2) := by decide +kernel
theorem dX8_neighbour_54 : decode cX8_neighbour 54 = .ok (.iload_n 3, 1) := by decide +kernel
theorem dX8_neighbour_55 : decode cX8_neighbour 55 = .ok (.ifCond .lt 29, 3) := by decide +kernel
theorem dX8_neighbour_58 : decode cX8_neighbour 58 = .ok (.iload_n 3, 1) := by decide +kernel
theorem dX8_neighbour_59 : decode cX8_neighbour 59 = .ok (.aload_n 0, 1) := by decide +kernel
theorem dX8_neighbour_60 : decode cX8_neighbour 60 = .ok (.getfield 7, 3) := by decide +kernel
theorem dX8_neighbour_63 : decode cX8_neighbour 63 = .ok (.if_icmp .ge 21, 3) := by decide +kernel
theorem dX8_neighbour_66 : decode cX8_neighbour 66 = .ok (.iload 4, 2) := by decide +kernel
theorem dX8_neighbour_68 : decode cX8_neighbour 68 = .ok (.ifCond .lt 16, 3) := by decide +kernel
theorem dX8_neighbour_71 : decode cX8_neighbour 71 = .ok (.iload 4, 2) := by decide +kernel
theorem dX8_neighbour_73 : decode cX8_neighbour 73 = .ok (.aload_n 0, 1) := by decide +kernel
theorem dX8_neighbour_74 : decode cX8_neighbour 74 = .ok (.getfield 13, 3) := by decide +kernel
theorem dX8_neighbour_77 : decode cX8_neighbour 77 = .ok (.if_icmp .ge 7, 3) := by decide +kernel
theorem dX8_neighbour_80 : decode cX8_neighbour 80 = .ok (.iconst 1, 1) := by decide +kernel
theorem dX8_neighbour_81 : decode cX8_neighbour 81 = .ok (.goto 4, 3) := by decide +kernel
theorem dX8_neighbour_84 : decode cX8_neighbour 84 = .ok (.iconst 0, 1) := by decide +kernel
theorem dX8_neighbour_85 : decode cX8_neighbour 85 = .ok (.istore 5, 2) := by decide +kernel
theorem dX8_neighbour_87 : decode cX8_neighbour 87 = .ok (.iload 5, 2) := by decide +kernel
theorem dX8_neighbour_89 : decode cX8_neighbour 89 = .ok (.ifCond .eq 15, 3) := by decide +kernel
theorem dX8_neighbour_92 : decode cX8_neighbour 92 = .ok (.iload 4, 2) := by decide +kernel
theorem dX8_neighbour_94 : decode cX8_neighbour 94 = .ok (.aload_n 0, 1) := by decide +kernel
theorem dX8_neighbour_95 : decode cX8_neighbour 95 = .ok (.getfield 7, 3) := by decide +kernel
theorem dX8_neighbour_98 : decode cX8_neighbour 98 = .ok (.imul, 1) := by decide +kernel
theorem dX8_neighbour_99 : decode cX8_neighbour 99 = .ok (.iload_n 3, 1) := by decide +kernel
theorem dX8_neighbour_100 : decode cX8_neighbour 100 = .ok (.iadd, 1) := by decide +kernel
theorem dX8_neighbour_101 : decode cX8_neighbour 101 = .ok (.goto 4, 3) := by decide +kernel
theorem dX8_neighbour_104 : decode cX8_neighbour 104 = .ok (.iconst (-1), 1) := by decide +kernel
theorem dX8_neighbour_105 : decode cX8_neighbour 105 = .ok (.ireturn, 1) := by decide +kernel
set_option maxRecDepth 20000 in
theorem ggX8_isLink_X8_isSwitch : GoodIn wsX8_isLink wsX8_isSwitch := goodIn_r _ [5, 6, 7, 15, 16, 17, 18, 19, 20, 21, 22, 23, 24, 25, 26, 27, 28, 29, 30, 31, 32, 33, 34, 35, 36, 37, 38, 39, 40] (by decide +kernel) (by decide +kernel)
set_option maxRecDepth 20000 in
theorem gX8_isLink_X8_isSwitch : GoodIn wsX8_isLink (wsV RX8 85 RX8 yX8_isSwitch wsX8_isSwitch) := goodIn_app (goodIn_of _ (by decide +kernel)) ggX8_isLink_X8_isSwitch
set_option maxRecDepth 20000 in
theorem ggX8_isLink_X8_isWithin : GoodIn wsX8_isLink wsX8_isWithin := goodIn_r _ [10] (by decide +kernel) (by decide +kernel)
set_option maxRecDepth 20000 in
theorem gX8_isLink_X8_isWithin : GoodIn wsX8_isLink (va_wsS RX8 89 yX8_isWithin wsX8_isWithin) := goodIn_app (goodIn_of _ (by decide +kernel)) ggX8_isLink_X8_isWithin
set_option maxRecDepth 20000 in
theorem ggX8_isLink_X8_neighbour : GoodIn wsX8_isLink wsX8_neighbour := goodIn_r _ [14, 6, 7, 15, 16, 17, 18, 19, 20, 21, 22, 23, 24, 25, 26, 27, 28, 29, 30, 31, 32, 33, 34, 35, 36, 37, 38, 39, 40] (by decide +kernel) (by decide +kernel)
set_option maxRecDepth 20000 in
theorem gX8_isLink_X8_neighbour : GoodIn wsX8_isLink (wsV RX8 93 RX8 yX8_neighbour wsX8_neighbour) := goodIn_app (goodIn_of _ (by decide +kernel)) ggX8_isLink_X8_neighbour
theorem dX8_isLink_0 : decode cX8_isLink 0 = .ok (.aload_n 0, 1) := by decide +kernel
theorem dX8_isLink_1 : decode cX8_isLink 1 = .ok (.iload_n 1, 1) := by decide +kernel
theorem dX8_isLink_2 : decode cX8_isLink 2 = .ok (.invokevirtual 85, 3) := by decide +kernel
theorem dX8_isLink_5 : decode cX8_isLink 5 = .ok (.ifCond .eq 25, 3) := by decide +kernel
theorem dX8_isLink_8 : decode cX8_isLink 8 = .ok (.iload_n 2, 1) := by decide +kernel
theorem dX8_isLink_9 : decode cX8_isLink 9 = .ok (.iconst 0, 1) := by decide +kernel
theorem dX8_isLink_10 : decode cX8_isLink 10 = .ok (.iconst 3, 1) := by decide +kernel
theorem dX8_isLink_11 : decode cX8_isLink 11 = .ok (.invokestatic 89, 3) := by decide +kernel
theorem dX8_isLink_14 : decode cX8_isLink 14 = .ok (.ifCond .eq 16, 3) := by decide +kernel
theorem dX8_isLink_17 : decode cX8_isLink 17 = .ok (.aload_n 0, 1) := by decide +kernel
theorem dX8_isLink_18 : decode cX8_isLink 18 = .ok (.iload_n 1, 1) := by decide +kernel
theorem dX8_isLink_19 : decode cX8_isLink 19 = .ok (.iload_n 2, 1) := by decide +kernel
theorem dX8_isLink_20 : decode cX8_isLink 20 = .ok (.invokevirtual 93, 3) := by decide +kernel
theorem dX8_isLink_23 : decode cX8_isLink 23 = .ok (.ifCond .lt 7, 3) := by decide +kernel
theorem dX8_isLink_26 : decode cX8_isLink 26 = .ok (.iconst 1, 1) := by decide +kernel
theorem dX8_isLink_27 : decode cX8_isLink 27 = .ok (.goto 4, 3) := by decide +kernel
theorem dX8_isLink_30 : decode cX8_isLink 30 = .ok (.iconst 0, 1) := by decide +kernel
theorem dX8_isLink_31 : decode cX8_isLink 31 = .ok (.ireturn, 1) := by decide +kernel
theorem dX8_begins_0 : decode cX8_begins 0 = .ok (.aload_n 0, 1) := by decide +kernel
theorem dX8_begins_1 : decode cX8_begins 1 = .ok (.iload_n 1, 1) := by decide +kernel
theorem dX8_begins_2 : decode cX8_begins 2 = .ok (.putfield 7, 3) := by decide +kernel
theorem dX8_begins_5 : decode cX8_begins 5 = .ok (.aload_n 0, 1) := by decide +kernel
theorem dX8_begins_6 : decode cX8_begins 6 = .ok (.iload_n 2, 1) := by decide +kernel
theorem dX8_begins_7 : decode cX8_begins 7 = .ok (.putfield 13, 3) := by decide +kernel
theorem dX8_begins_10 : decode cX8_begins 10 = .ok (.aload_n 0, 1) := by decide +kernel
theorem dX8_begins_11 : decode cX8_begins 11 = .ok (.iload_n 3, 1) := by decide +kernel
theorem dX8_begins_12 : decode cX8_begins 12 = .ok (.putfield 16, 3) := by decide +kernel
theorem dX8_begins_15 : decode cX8_begins 15 = .ok (.aload_n 0, 1) := by decide +kernel
theorem dX8_begins_16 : decode cX8_begins 16 = .ok (.iload 4, 2) := by decide +kernel
theorem dX8_begins_18 : decode cX8_begins 18 = .ok (.putfield 97, 3) := by decide +kernel
theorem dX8_begins_21 : decode cX8_begins 21 = .ok (.aload_n 0, 1) := by decide +kernel
theorem dX8_begins_22 : decode cX8_begins 22 = .ok (.iconst 0, 1) := by decide +kernel
theorem dX8_begins_23 : decode cX8_begins 23 = .ok (.putfield 100, 3) := by decide +kernel
theorem dX8_begins_26 : decode cX8_begins 26 = .ok (.aload_n 0, 1) := by decide +kernel
theorem dX8_begins_27 : decode cX8_begins 27 = .ok (.iconst 0, 1) := by decide +kernel
theorem dX8_begins_28 : decode cX8_begins 28 = .ok (.putfield 82, 3) := by decide +kernel
theorem dX8_begins_31 : decode cX8_begins 31 = .ok (.aload_n 0, 1) := by decide +kernel
theorem dX8_begins_32 : decode cX8_begins 32 = .ok (.iconst 0, 1) := by decide +kernel
theorem dX8_begins_33 : decode cX8_begins 33 = .ok (.putfield 103, 3) := by decide +kernel
theorem dX8_begins_36 : decode cX8_begins 36 = .ok (.iconst 0, 1) := by decide +kernel
theorem dX8_begins_37 : decode cX8_begins 37 = .ok (.istore 5, 2) := by decide +kernel
theorem dX8_begins_39 : decode cX8_begins 39 = .ok (.iload 5, 2) := by decide +kernel
theorem dX8_begins_41 : decode cX8_begins 41 = .ok (.sipush 160, 3) := by decide +kernel
theorem dX8_begins_44 : decode cX8_begins 44 = .ok (.if_icmp .ge 17, 3) := by decide +kernel
theorem dX8_begins_47 : decode cX8_begins 47 = .ok (.aload_n 0, 1) := by decide +kernel
theorem dX8_begins_48 : decode cX8_begins 48 = .ok (.getfield 23, 3) := by decide +kernel
theorem dX8_begins_51 : decode cX8_begins 51 = .ok (.iload 5, 2) := by decide +kernel
theorem dX8_begins_53 : decode cX8_begins 53 = .ok (.iconst 0, 1) := by decide +kernel
theorem dX8_begins_54 : decode cX8_begins 54 = .ok (.iastore, 1) := by decide +kernel
theorem dX8_begins_55 : decode cX8_begins 55 = .ok (.iinc 5 1, 3) := by decide +kernel
theorem dX8_begins_58 : decode cX8_begins 58 = .ok (.goto (-19), 3) := by decide +kernel
theorem dX8_begins_61 : decode cX8_begins 61 = .ok (.iconst 0, 1) := by decide +kernel
theorem dX8_begins_62 : decode cX8_begins 62 = .ok (.istore 5, 2) := by decide +kernel
theorem dX8_begins_64 : decode cX8_begins 64 = .ok (.iload 5, 2) := by decide +kernel
theorem dX8_begins_66 : decode cX8_begins 66 = .ok (.sipush 128, 3) := by decide +kernel
theorem dX8_begins_69 : decode cX8_begins 69 = .ok (.if_icmp .ge 17, 3) := by decide +kernel
theorem dX8_begins_72 : decode cX8_begins 72 = .ok (.aload_n 0, 1) := by decide +kernel
theorem dX8_begins_73 : decode cX8_begins 73 = .ok (.getfield 26, 3) := by decide +kernel
theorem dX8_begins_76 : decode cX8_begins 76 = .ok (.iload 5, 2) := by decide +kernel
theorem dX8_begins_78 : decode cX8_begins 78 = .ok (.iload_n 3, 1) := by decide +kernel
theorem dX8_begins_79 : decode cX8_begins 79 = .ok (.iastore, 1) := by decide +kernel
theorem dX8_begins_80 : decode cX8_begins 80 = .ok (.iinc 5 1, 3) := by decide +kernel
theorem dX8_begins_83 : decode cX8_begins 83 = .ok (.goto (-19), 3) := by decide +kernel
theorem dX8_begins_86 : decode cX8_begins 86 = .ok (.iconst 0, 1) := by decide +kernel
theorem dX8_begins_87 : decode cX8_begins 87 = .ok (.istore 5, 2) := by decide +kernel
theorem dX8_begins_89 : decode cX8_begins 89 = .ok (.iload 5, 2) := by decide +kernel
theorem dX8_begins_91 : decode cX8_begins 91 = .ok (.sipush 640, 3) := by decide +kernel
theorem dX8_begins_94 : decode cX8_begins 94 = .ok (.if_icmp .ge 17, 3) := by decide +kernel
theorem dX8_begins_97 : decode cX8_begins 97 = .ok (.aload_n 0, 1) := by decide +kernel
theorem dX8_begins_98 : decode cX8_begins 98 = .ok (.getfield 29, 3) := by decide +kernel
theorem dX8_begins_101 : decode cX8_begins 101 = .ok (.iload 5, 2) := by decide +kernel
theorem dX8_begins_103 : decode cX8_begins 103 = .ok (.iconst 0, 1) := by decide +kernel
theorem dX8_begins_104 : decode cX8_begins 104 = .ok (.iastore, 1) := by decide +kernel
theorem dX8_begins_105 : decode cX8_begins 105 = .ok (.iinc 5 1, 3) := by decide +kernel
theorem dX8_begins_108 : decode cX8_begins 108 = .ok (.goto (-19), 3) := by decide +kernel
theorem dX8_begins_111 : decode cX8_begins 111 = .ok (.iconst 0, 1) := by decide +kernel
theorem dX8_begins_112 : decode cX8_begins 112 = .ok (.istore 5, 2) := by decide +kernel
theorem dX8_begins_114 : decode cX8_begins 114 = .ok (.iload 5, 2) := by decide +kernel
theorem dX8_begins_116 : decode cX8_begins 116 = .ok (.bipush 80, 2) := by decide +kernel
theorem dX8_begins_118 : decode cX8_begins 118 = .ok (.if_icmp .ge 17, 3) := by decide +kernel
theorem dX8_begins_121 : decode cX8_begins 121 = .ok (.aload_n 0, 1) := by decide +kernel
theorem dX8_begins_122 : decode cX8_begins 122 = .ok (.getfield 32, 3) := by decide +kernel
theorem dX8_begins_125 : decode cX8_begins 125 = .ok (.iload 5, 2) := by decide +kernel
theorem dX8_begins_127 : decode cX8_begins 127 = .ok (.iconst 0, 1) := by decide +kernel
theorem dX8_begins_128 : decode cX8_begins 128 = .ok (.iastore, 1) := by decide +kernel
theorem dX8_begins_129 : decode cX8_begins 129 = .ok (.iinc 5 1, 3) := by decide +kernel
theorem dX8_begins_132 : decode cX8_begins 132 = .ok (.goto (-18), 3) := by decide +kernel
theorem dX8_begins_135 : decode cX8_begins 135 = .ok (.iconst 0, 1) := by decide +kernel
theorem dX8_begins_136 : decode cX8_begins 136 = .ok (.istore 5, 2) := by decide +kernel
theorem dX8_begins_138 : decode cX8_begins 138 = .ok (.iload 5, 2) := by decide +kernel
theorem dX8_begins_140 : decode cX8_begins 140 = .ok (.bipush 16, 2) := by decide +kernel
theorem dX8_begins_142 : decode cX8_begins 142 = .ok (.if_icmp .ge 33, 3) := by decide +kernel
theorem dX8_begins_145 : decode cX8_begins 145 = .ok (.aload_n 0, 1) := by decide +kernel
theorem dX8_begins_146 : decode cX8_begins 146 = .ok (.getfield 35, 3) := by decide +kernel
theorem dX8_begins_149 : decode cX8_begins 149 = .ok (.iload 5, 2) := by decide +kernel
theorem dX8_begins_151 : decode cX8_begins 151 = .ok (.iconst 1, 1) := by decide +kernel
theorem dX8_begins_152 : decode cX8_begins 152 = .ok (.iastore, 1) := by decide +kernel
theorem dX8_begins_153 : decode cX8_begins 153 = .ok (.aload_n 0, 1) := by decide +kernel
theorem dX8_begins_154 : decode cX8_begins 154 = .ok (.getfield 38, 3) := by decide +kernel
theorem dX8_begins_157 : decode cX8_begins 157 = .ok (.iload 5, 2) := by decide +kernel
theorem dX8_begins_159 : decode cX8_begins 159 = .ok (.iconst (-1), 1) := by decide +kernel
theorem dX8_begins_160 : decode cX8_begins 160 = .ok (.iastore, 1) := by decide +kernel
theorem dX8_begins_161 : decode cX8_begins 161 = .ok (.aload_n 0, 1) := by decide +kernel
theorem dX8_begins_162 : decode cX8_begins 162 = .ok (.getfield 41, 3) := by decide +kernel
theorem dX8_begins_165 : decode cX8_begins 165 = .ok (.iload 5, 2) := by decide +kernel
theorem dX8_begins_167 : decode cX8_begins 167 = .ok (.iconst 0, 1) := by decide +kernel
theorem dX8_begins_168 : decode cX8_begins 168 = .ok (.bastore, 1) := by decide +kernel
theorem dX8_begins_169 : decode cX8_begins 169 = .ok (.iinc 5 1, 3) := by decide +kernel
theorem dX8_begins_172 : decode cX8_begins 172 = .ok (.goto (-34), 3) := by decide +kernel
theorem dX8_begins_175 : decode cX8_begins 175 = .ok (.return_, 1) := by decide +kernel
set_option maxRecDepth 20000 in
theorem ggX8_begin_X8_isWithin : GoodIn wsX8_begin wsX8_isWithin := goodIn_r _ [4] (by decide +kernel) (by decide +kernel)
set_option maxRecDepth 20000 in
theorem gX8_begin_X8_isWithin : GoodIn wsX8_begin (va_wsS RX8 89 yX8_isWithin wsX8_isWithin) := goodIn_app (goodIn_of _ (by decide +kernel)) ggX8_begin_X8_isWithin
set_option maxRecDepth 20000 in
theorem ggX8_begin_X8_goes : GoodIn wsX8_begin wsX8_goes := goodIn_r _ [8, 9, 28, 29, 30, 31, 32, 33, 34, 35, 36, 37, 38, 39, 40, 41, 42, 43, 44, 45, 46, 47, 48, 49, 50, 51, 52, 53] (by decide +kernel) (by decide +kernel)
set_option maxRecDepth 20000 in
theorem gX8_begin_X8_goes : GoodIn wsX8_begin (wsV RX8 106 RX8 yX8_goes wsX8_goes) := goodIn_app (goodIn_of _ (by decide +kernel)) ggX8_begin_X8_goes
set_option maxRecDepth 20000 in
theorem ggX8_begin_X8_begins : GoodIn wsX8_begin wsX8_begins := goodIn_r _ [13, 14, 15, 16, 17, 18, 19, 20, 21, 22, 23, 24, 25, 26, 27, 28, 29, 30, 31, 32, 33, 34, 35, 36, 37, 38, 39, 40, 41, 42, 43, 44, 45, 46, 47, 48, 49, 50, 51, 52, 53] (by decide +kernel) (by decide +kernel)
set_option maxRecDepth 20000 in
theorem gX8_begin_X8_begins : GoodIn wsX8_begin (wsV RX8 75 RX8 yX8_begins wsX8_begins) := goodIn_app (goodIn_of _ (by decide +kernel)) ggX8_begin_X8_begins
theorem dX8_begin_0 : decode cX8_begin 0 = .ok (.aload_n 0, 1) := by decide +kernel
theorem dX8_begin_1 : decode cX8_begin 1 = .ok (.iload_n 1, 1) := by decide +kernel
theorem dX8_begin_2 : decode cX8_begin 2 = .ok (.iconst 2, 1) := by decide +kernel
theorem dX8_begin_3 : decode cX8_begin 3 = .ok (.iconst 4, 1) := by decide +kernel
theorem dX8_begin_4 : decode cX8_begin 4 = .ok (.invokestatic 89, 3) := by decide +kernel
theorem dX8_begin_7 : decode cX8_begin 7 = .ok (.ifCond .eq 35, 3) := by decide +kernel
theorem dX8_begin_10 : decode cX8_begin 10 = .ok (.iload_n 2, 1) := by decide +kernel
theorem dX8_begin_11 : decode cX8_begin 11 = .ok (.iconst 2, 1) := by decide +kernel
theorem dX8_begin_12 : decode cX8_begin 12 = .ok (.iconst 4, 1) := by decide +kernel
theorem dX8_begin_13 : decode cX8_begin 13 = .ok (.invokestatic 89, 3) := by decide +kernel
theorem dX8_begin_16 : decode cX8_begin 16 = .ok (.ifCond .eq 26, 3) := by decide +kernel
theorem dX8_begin_19 : decode cX8_begin 19 = .ok (.iload_n 3, 1) := by decide +kernel
theorem dX8_begin_20 : decode cX8_begin 20 = .ok (.iconst 1, 1) := by decide +kernel
theorem dX8_begin_21 : decode cX8_begin 21 = .ok (.iconst 3, 1) := by decide +kernel
theorem dX8_begin_22 : decode cX8_begin 22 = .ok (.invokestatic 89, 3) := by decide +kernel
theorem dX8_begin_25 : decode cX8_begin 25 = .ok (.ifCond .eq 17, 3) := by decide +kernel
theorem dX8_begin_28 : decode cX8_begin 28 = .ok (.iload 4, 2) := by decide +kernel
theorem dX8_begin_30 : decode cX8_begin 30 = .ok (.iconst 0, 1) := by decide +kernel
theorem dX8_begin_31 : decode cX8_begin 31 = .ok (.iconst 3, 1) := by decide +kernel
theorem dX8_begin_32 : decode cX8_begin 32 = .ok (.invokestatic 89, 3) := by decide +kernel
theorem dX8_begin_35 : decode cX8_begin 35 = .ok (.ifCond .eq 7, 3) := by decide +kernel
theorem dX8_begin_38 : decode cX8_begin 38 = .ok (.iconst 1, 1) := by decide +kernel
theorem dX8_begin_39 : decode cX8_begin 39 = .ok (.goto 4, 3) := by decide +kernel
theorem dX8_begin_42 : decode cX8_begin 42 = .ok (.iconst 0, 1) := by decide +kernel
theorem dX8_begin_43 : decode cX8_begin 43 = .ok (.iconst 1, 1) := by decide +kernel
theorem dX8_begin_44 : decode cX8_begin 44 = .ok (.iconst 1, 1) := by decide +kernel
theorem dX8_begin_45 : decode cX8_begin 45 = .ok (.invokevirtual 106, 3) := by decide +kernel
theorem dX8_begin_48 : decode cX8_begin 48 = .ok (.ifCond .ne 5, 3) := by decide +kernel
theorem dX8_begin_51 : decode cX8_begin 51 = .ok (.iconst 0, 1) := by decide +kernel
theorem dX8_begin_52 : decode cX8_begin 52 = .ok (.ireturn, 1) := by decide +kernel
theorem dX8_begin_53 : decode cX8_begin 53 = .ok (.aload_n 0, 1) := by decide +kernel
theorem dX8_begin_54 : decode cX8_begin 54 = .ok (.iload_n 1, 1) := by decide +kernel
theorem dX8_begin_55 : decode cX8_begin 55 = .ok (.iload_n 2, 1) := by decide +kernel
theorem dX8_begin_56 : decode cX8_begin 56 = .ok (.iload_n 3, 1) := by decide +kernel
theorem dX8_begin_57 : decode cX8_begin 57 = .ok (.iload 4, 2) := by decide +kernel
theorem dX8_begin_59 : decode cX8_begin 59 = .ok (.invokevirtual 75, 3) := by decide +kernel
theorem dX8_begin_62 : decode cX8_begin 62 = .ok (.iload_n 1, 1) := by decide +kernel
theorem dX8_begin_63 : decode cX8_begin 63 = .ok (.iload_n 2, 1) := by decide +kernel
theorem dX8_begin_64 : decode cX8_begin 64 = .ok (.imul, 1) := by decide +kernel
theorem dX8_begin_65 : decode cX8_begin 65 = .ok (.ireturn, 1) := by decide +kernel
theorem dX8_puts_0 : decode cX8_puts 0 = .ok (.aload_n 0, 1) := by decide +kernel
theorem dX8_puts_1 : decode cX8_puts 1 = .ok (.getfield 19, 3) := by decide +kernel
theorem dX8_puts_4 : decode cX8_puts 4 = .ok (.iconst 3, 1) := by decide +kernel
theorem dX8_puts_5 : decode cX8_puts 5 = .ok (.iload_n 1, 1) := by decide +kernel
theorem dX8_puts_6 : decode cX8_puts 6 = .ok (.imul, 1) := by decide +kernel
theorem dX8_puts_7 : decode cX8_puts 7 = .ok (.aload_n 0, 1) := by decide +kernel
theorem dX8_puts_8 : decode cX8_puts 8 = .ok (.getfield 23, 3) := by decide +kernel
theorem dX8_puts_11 : decode cX8_puts 11 = .ok (.iload_n 1, 1) := by decide +kernel
theorem dX8_puts_12 : decode cX8_puts 12 = .ok (.iaload, 1) := by decide +kernel
theorem dX8_puts_13 : decode cX8_puts 13 = .ok (.iadd, 1) := by decide +kernel
theorem dX8_puts_14 : decode cX8_puts 14 = .ok (.iload_n 2, 1) := by decide +kernel
theorem dX8_puts_15 : decode cX8_puts 15 = .ok (.iastore, 1) := by decide +kernel
theorem dX8_puts_16 : decode cX8_puts 16 = .ok (.aload_n 0, 1) := by decide +kernel
theorem dX8_puts_17 : decode cX8_puts 17 = .ok (.getfield 23, 3) := by decide +kernel
theorem dX8_puts_20 : decode cX8_puts 20 = .ok (.iload_n 1, 1) := by decide +kernel
theorem dX8_puts_21 : decode cX8_puts 21 = .ok (.dup2, 1) := by decide +kernel
theorem dX8_puts_22 : decode cX8_puts 22 = .ok (.iaload, 1) := by decide +kernel
theorem dX8_puts_23 : decode cX8_puts 23 = .ok (.iconst 1, 1) := by decide +kernel
theorem dX8_puts_24 : decode cX8_puts 24 = .ok (.iadd, 1) := by decide +kernel
theorem dX8_puts_25 : decode cX8_puts 25 = .ok (.iastore, 1) := by decide +kernel
theorem dX8_puts_26 : decode cX8_puts 26 = .ok (.return_, 1) := by decide +kernel
theorem dX8_takes_0 : decode cX8_takes 0 = .ok (.aload_n 0, 1) := by decide +kernel
theorem dX8_takes_1 : decode cX8_takes 1 = .ok (.getfield 19, 3) := by decide +kernel
theorem dX8_takes_4 : decode cX8_takes 4 = .ok (.iconst 3, 1) := by decide +kernel
theorem dX8_takes_5 : decode cX8_takes 5 = .ok (.iload_n 1, 1) := by decide +kernel
theorem dX8_takes_6 : decode cX8_takes 6 = .ok (.imul, 1) := by decide +kernel
theorem dX8_takes_7 : decode cX8_takes 7 = .ok (.iaload, 1) := by decide +kernel
theorem dX8_takes_8 : decode cX8_takes 8 = .ok (.istore_n 2, 1) := by decide +kernel
theorem dX8_takes_9 : decode cX8_takes 9 = .ok (.aload_n 0, 1) := by decide +kernel
theorem dX8_takes_10 : decode cX8_takes 10 = .ok (.getfield 23, 3) := by decide +kernel
theorem dX8_takes_13 : decode cX8_takes 13 = .ok (.iload_n 1, 1) := by decide +kernel
theorem dX8_takes_14 : decode cX8_takes 14 = .ok (.dup2, 1) := by decide +kernel
theorem dX8_takes_15 : decode cX8_takes 15 = .ok (.iaload, 1) := by decide +kernel
theorem dX8_takes_16 : decode cX8_takes 16 = .ok (.iconst 1, 1) := by decide +kernel
theorem dX8_takes_17 : decode cX8_takes 17 = .ok (.isub, 1) := by decide +kernel
theorem dX8_takes_18 : decode cX8_takes 18 = .ok (.iastore, 1) := by decide +kernel
theorem dX8_takes_19 : decode cX8_takes 19 = .ok (.iconst 0, 1) := by decide +kernel
theorem dX8_takes_20 : decode cX8_takes 20 = .ok (.istore_n 3, 1) := by decide +kernel
theorem dX8_takes_21 : decode cX8_takes 21 = .ok (.iload_n 3, 1) := by decide +kernel
theorem dX8_takes_22 : decode cX8_takes 22 = .ok (.aload_n 0, 1) := by decide +kernel
theorem dX8_takes_23 : decode cX8_takes 23 = .ok (.getfield 23, 3) := by decide +kernel
theorem dX8_takes_26 : decode cX8_takes 26 = .ok (.iload_n 1, 1) := by decide +kernel
theorem dX8_takes_27 : decode cX8_takes 27 = .ok (.iaload, 1) := by decide +kernel
theorem dX8_takes_28 : decode cX8_takes 28 = .ok (.if_icmp .ge 31, 3) := by decide +kernel
theorem dX8_takes_31 : decode cX8_takes 31 = .ok (.aload_n 0, 1) := by decide +kernel
theorem dX8_takes_32 : decode cX8_takes 32 = .ok (.getfield 19, 3) := by decide +kernel
theorem dX8_takes_35 : decode cX8_takes 35 = .ok (.iconst 3, 1) := by decide +kernel
theorem dX8_takes_36 : decode cX8_takes 36 = .ok (.iload_n 1, 1) := by decide +kernel
theorem dX8_takes_37 : decode cX8_takes 37 = .ok (.imul, 1) := by decide +kernel
theorem dX8_takes_38 : decode cX8_takes 38 = .ok (.iload_n 3, 1) := by decide +kernel
theorem dX8_takes_39 : decode cX8_takes 39 = .ok (.iadd, 1) := by decide +kernel
theorem dX8_takes_40 : decode cX8_takes 40 = .ok (.aload_n 0, 1) := by decide +kernel
theorem dX8_takes_41 : decode cX8_takes 41 = .ok (.getfield 19, 3) := by decide +kernel
theorem dX8_takes_44 : decode cX8_takes 44 = .ok (.iconst 3, 1) := by decide +kernel
theorem dX8_takes_45 : decode cX8_takes 45 = .ok (.iload_n 1, 1) := by decide +kernel
theorem dX8_takes_46 : decode cX8_takes 46 = .ok (.imul, 1) := by decide +kernel
theorem dX8_takes_47 : decode cX8_takes 47 = .ok (.iload_n 3, 1) := by decide +kernel
theorem dX8_takes_48 : decode cX8_takes 48 = .ok (.iadd, 1) := by decide +kernel
theorem dX8_takes_49 : decode cX8_takes 49 = .ok (.iconst 1, 1) := by decide +kernel
theorem dX8_takes_50 : decode cX8_takes 50 = .ok (.iadd, 1) := by decide +kernel
theorem dX8_takes_51 : decode cX8_takes 51 = .ok (.iaload, 1) := by decide +kernel
theorem dX8_takes_52 : decode cX8_takes 52 = .ok (.iastore, 1) := by decide +kernel
theorem dX8_takes_53 : decode cX8_takes 53 = .ok (.iinc 3 1, 3) := by decide +kernel
theorem dX8_takes_56 : decode cX8_takes 56 = .ok (.goto (-35), 3) := by decide +kernel
theorem dX8_takes_59 : decode cX8_takes 59 = .ok (.iload_n 2, 1) := by decide +kernel
theorem dX8_takes_60 : decode cX8_takes 60 = .ok (.ireturn, 1) := by decide +kernel
set_option maxRecDepth 20000 in
theorem ggX8_send_X8_isSwitch : GoodIn wsX8_send wsX8_isSwitch := goodIn_r _ [18, 19, 20, 37, 38, 39, 40, 41, 42, 43, 44, 45, 46, 47, 48, 49, 50, 51, 52, 53, 54, 55, 56, 57, 58, 59, 60, 61, 62] (by decide +kernel) (by decide +kernel)
set_option maxRecDepth 20000 in
theorem gX8_send_X8_isSwitch : GoodIn wsX8_send (wsV RX8 85 RX8 yX8_isSwitch wsX8_isSwitch) := goodIn_app (goodIn_of _ (by decide +kernel)) ggX8_send_X8_isSwitch
set_option maxRecDepth 20000 in
theorem ggX8_send_X8_isWithin : GoodIn wsX8_send wsX8_isWithin := goodIn_r _ [23] (by decide +kernel) (by decide +kernel)
set_option maxRecDepth 20000 in
theorem gX8_send_X8_isWithin : GoodIn wsX8_send (va_wsS RX8 89 yX8_isWithin wsX8_isWithin) := goodIn_app (goodIn_of _ (by decide +kernel)) ggX8_send_X8_isWithin
set_option maxRecDepth 20000 in
theorem ggX8_send_X8_bufferOf : GoodIn wsX8_send wsX8_bufferOf := goodIn_r _ [26] (by decide +kernel) (by decide +kernel)
set_option maxRecDepth 20000 in
theorem gX8_send_X8_bufferOf : GoodIn wsX8_send (va_wsS RX8 110 yX8_bufferOf wsX8_bufferOf) := goodIn_app (goodIn_of _ (by decide +kernel)) ggX8_send_X8_bufferOf
set_option maxRecDepth 20000 in
theorem ggX8_send_X8_goes : GoodIn wsX8_send wsX8_goes := goodIn_r _ [30, 31, 37, 38, 39, 40, 41, 42, 43, 44, 45, 46, 47, 48, 49, 50, 51, 52, 53, 54, 55, 56, 57, 58, 59, 60, 61, 62] (by decide +kernel) (by decide +kernel)
set_option maxRecDepth 20000 in
theorem gX8_send_X8_goes : GoodIn wsX8_send (wsV RX8 106 RX8 yX8_goes wsX8_goes) := goodIn_app (goodIn_of _ (by decide +kernel)) ggX8_send_X8_goes
set_option maxRecDepth 20000 in
theorem ggX8_send_X8_puts : GoodIn wsX8_send wsX8_puts := goodIn_r _ [35, 36, 2, 37, 38, 39, 40, 41, 42, 43, 44, 45, 46, 47, 48, 49, 50, 51, 52, 53, 54, 55, 56, 57, 58, 59, 60, 61, 62] (by decide +kernel) (by decide +kernel)
set_option maxRecDepth 20000 in
theorem gX8_send_X8_puts : GoodIn wsX8_send (wsV RX8 114 RX8 yX8_puts wsX8_puts) := goodIn_app (goodIn_of _ (by decide +kernel)) ggX8_send_X8_puts
theorem dX8_send_0 : decode cX8_send 0 = .ok (.aload_n 0, 1) := by decide +kernel
theorem dX8_send_1 : decode cX8_send 1 = .ok (.iload_n 1, 1) := by decide +kernel
theorem dX8_send_2 : decode cX8_send 2 = .ok (.invokevirtual 85, 3) := by decide +kernel
theorem dX8_send_5 : decode cX8_send 5 = .ok (.ifCond .eq 15, 3) := by decide +kernel
theorem dX8_send_8 : decode cX8_send 8 = .ok (.aload_n 0, 1) := by decide +kernel
theorem dX8_send_9 : decode cX8_send 9 = .ok (.iload_n 2, 1) := by decide +kernel
theorem dX8_send_10 : decode cX8_send 10 = .ok (.invokevirtual 85, 3) := by decide +kernel
theorem dX8_send_13 : decode cX8_send 13 = .ok (.ifCond .eq 7, 3) := by decide +kernel
theorem dX8_send_16 : decode cX8_send 16 = .ok (.iconst 1, 1) := by decide +kernel
theorem dX8_send_17 : decode cX8_send 17 = .ok (.goto 4, 3) := by decide +kernel
theorem dX8_send_20 : decode cX8_send 20 = .ok (.iconst 0, 1) := by decide +kernel
theorem dX8_send_21 : decode cX8_send 21 = .ok (.istore 5, 2) := by decide +kernel
theorem dX8_send_23 : decode cX8_send 23 = .ok (.iload_n 1, 1) := by decide +kernel
theorem dX8_send_24 : decode cX8_send 24 = .ok (.iload_n 2, 1) := by decide +kernel
theorem dX8_send_25 : decode cX8_send 25 = .ok (.if_icmp .eq 26, 3) := by decide +kernel
theorem dX8_send_28 : decode cX8_send 28 = .ok (.iload_n 3, 1) := by decide +kernel
theorem dX8_send_29 : decode cX8_send 29 = .ok (.iconst 0, 1) := by decide +kernel
theorem dX8_send_30 : decode cX8_send 30 = .ok (.iconst 1, 1) := by decide +kernel
theorem dX8_send_31 : decode cX8_send 31 = .ok (.invokestatic 89, 3) := by decide +kernel
theorem dX8_send_34 : decode cX8_send 34 = .ok (.ifCond .eq 17, 3) := by decide +kernel
theorem dX8_send_37 : decode cX8_send 37 = .ok (.iload 4, 2) := by decide +kernel
theorem dX8_send_39 : decode cX8_send 39 = .ok (.iconst 0, 1) := by decide +kernel
theorem dX8_send_40 : decode cX8_send 40 = .ok (.iconst 1, 1) := by decide +kernel
theorem dX8_send_41 : decode cX8_send 41 = .ok (.invokestatic 89, 3) := by decide +kernel
theorem dX8_send_44 : decode cX8_send 44 = .ok (.ifCond .eq 7, 3) := by decide +kernel
theorem dX8_send_47 : decode cX8_send 47 = .ok (.iconst 1, 1) := by decide +kernel
theorem dX8_send_48 : decode cX8_send 48 = .ok (.goto 4, 3) := by decide +kernel
theorem dX8_send_51 : decode cX8_send 51 = .ok (.iconst 0, 1) := by decide +kernel
theorem dX8_send_52 : decode cX8_send 52 = .ok (.istore 6, 2) := by decide +kernel
theorem dX8_send_54 : decode cX8_send 54 = .ok (.iload 5, 2) := by decide +kernel
theorem dX8_send_56 : decode cX8_send 56 = .ok (.ifCond .eq 68, 3) := by decide +kernel
theorem dX8_send_59 : decode cX8_send 59 = .ok (.iload 6, 2) := by decide +kernel
theorem dX8_send_61 : decode cX8_send 61 = .ok (.ifCond .eq 63, 3) := by decide +kernel
theorem dX8_send_64 : decode cX8_send 64 = .ok (.aload_n 0, 1) := by decide +kernel
theorem dX8_send_65 : decode cX8_send 65 = .ok (.getfield 82, 3) := by decide +kernel
theorem dX8_send_68 : decode cX8_send 68 = .ok (.bipush 80, 2) := by decide +kernel
theorem dX8_send_70 : decode cX8_send 70 = .ok (.if_icmp .ge 54, 3) := by decide +kernel
theorem dX8_send_73 : decode cX8_send 73 = .ok (.aload_n 0, 1) := by decide +kernel
theorem dX8_send_74 : decode cX8_send 74 = .ok (.getfield 23, 3) := by decide +kernel
theorem dX8_send_77 : decode cX8_send 77 = .ok (.iload_n 1, 1) := by decide +kernel
theorem dX8_send_78 : decode cX8_send 78 = .ok (.iconst 4, 1) := by decide +kernel
theorem dX8_send_79 : decode cX8_send 79 = .ok (.iload_n 3, 1) := by decide +kernel
theorem dX8_send_80 : decode cX8_send 80 = .ok (.invokestatic 110, 3) := by decide +kernel
theorem dX8_send_83 : decode cX8_send 83 = .ok (.iaload, 1) := by decide +kernel
theorem dX8_send_84 : decode cX8_send 84 = .ok (.aload_n 0, 1) := by decide +kernel
theorem dX8_send_85 : decode cX8_send 85 = .ok (.getfield 16, 3) := by decide +kernel
theorem dX8_send_88 : decode cX8_send 88 = .ok (.if_icmp .ge 36, 3) := by decide +kernel
theorem dX8_send_91 : decode cX8_send 91 = .ok (.aload_n 0, 1) := by decide +kernel
theorem dX8_send_92 : decode cX8_send 92 = .ok (.getfield 38, 3) := by decide +kernel
theorem dX8_send_95 : decode cX8_send 95 = .ok (.iload_n 1, 1) := by decide +kernel
theorem dX8_send_96 : decode cX8_send 96 = .ok (.iaload, 1) := by decide +kernel
theorem dX8_send_97 : decode cX8_send 97 = .ok (.ifCond .lt 23, 3) := by decide +kernel
theorem dX8_send_100 : decode cX8_send 100 = .ok (.aload_n 0, 1) := by decide +kernel
theorem dX8_send_101 : decode cX8_send 101 = .ok (.getfield 100, 3) := by decide +kernel
theorem dX8_send_104 : decode cX8_send 104 = .ok (.aload_n 0, 1) := by decide +kernel
theorem dX8_send_105 : decode cX8_send 105 = .ok (.getfield 38, 3) := by decide +kernel
theorem dX8_send_108 : decode cX8_send 108 = .ok (.iload_n 1, 1) := by decide +kernel
theorem dX8_send_109 : decode cX8_send 109 = .ok (.iaload, 1) := by decide +kernel
theorem dX8_send_110 : decode cX8_send 110 = .ok (.isub, 1) := by decide +kernel
theorem dX8_send_111 : decode cX8_send 111 = .ok (.aload_n 0, 1) := by decide +kernel
theorem dX8_send_112 : decode cX8_send 112 = .ok (.getfield 35, 3) := by decide +kernel
theorem dX8_send_115 : decode cX8_send 115 = .ok (.iload_n 1, 1) := by decide +kernel
theorem dX8_send_116 : decode cX8_send 116 = .ok (.iaload, 1) := by decide +kernel
theorem dX8_send_117 : decode cX8_send 117 = .ok (.if_icmp .lt 7, 3) := by decide +kernel
theorem dX8_send_120 : decode cX8_send 120 = .ok (.iconst 1, 1) := by decide +kernel
theorem dX8_send_121 : decode cX8_send 121 = .ok (.goto 4, 3) := by decide +kernel
theorem dX8_send_124 : decode cX8_send 124 = .ok (.iconst 0, 1) := by decide +kernel
theorem dX8_send_125 : decode cX8_send 125 = .ok (.istore 7, 2) := by decide +kernel
theorem dX8_send_127 : decode cX8_send 127 = .ok (.aload_n 0, 1) := by decide +kernel
theorem dX8_send_128 : decode cX8_send 128 = .ok (.iload 5, 2) := by decide +kernel
theorem dX8_send_130 : decode cX8_send 130 = .ok (.iload 6, 2) := by decide +kernel
theorem dX8_send_132 : decode cX8_send 132 = .ok (.iload 7, 2) := by decide +kernel
theorem dX8_send_134 : decode cX8_send 134 = .ok (.invokevirtual 106, 3) := by decide +kernel
theorem dX8_send_137 : decode cX8_send 137 = .ok (.ifCond .ne 5, 3) := by decide +kernel
theorem dX8_send_140 : decode cX8_send 140 = .ok (.iconst 0, 1) := by decide +kernel
theorem dX8_send_141 : decode cX8_send 141 = .ok (.ireturn, 1) := by decide +kernel
theorem dX8_send_142 : decode cX8_send 142 = .ok (.aload_n 0, 1) := by decide +kernel
theorem dX8_send_143 : decode cX8_send 143 = .ok (.getfield 48, 3) := by decide +kernel
theorem dX8_send_146 : decode cX8_send 146 = .ok (.aload_n 0, 1) := by decide +kernel
theorem dX8_send_147 : decode cX8_send 147 = .ok (.getfield 82, 3) := by decide +kernel
theorem dX8_send_150 : decode cX8_send 150 = .ok (.iload_n 1, 1) := by decide +kernel
theorem dX8_send_151 : decode cX8_send 151 = .ok (.iastore, 1) := by decide +kernel
theorem dX8_send_152 : decode cX8_send 152 = .ok (.aload_n 0, 1) := by decide +kernel
theorem dX8_send_153 : decode cX8_send 153 = .ok (.getfield 45, 3) := by decide +kernel
theorem dX8_send_156 : decode cX8_send 156 = .ok (.aload_n 0, 1) := by decide +kernel
theorem dX8_send_157 : decode cX8_send 157 = .ok (.getfield 82, 3) := by decide +kernel
theorem dX8_send_160 : decode cX8_send 160 = .ok (.iload_n 2, 1) := by decide +kernel
theorem dX8_send_161 : decode cX8_send 161 = .ok (.iastore, 1) := by decide +kernel
theorem dX8_send_162 : decode cX8_send 162 = .ok (.aload_n 0, 1) := by decide +kernel
theorem dX8_send_163 : decode cX8_send 163 = .ok (.getfield 51, 3) := by decide +kernel
theorem dX8_send_166 : decode cX8_send 166 = .ok (.aload_n 0, 1) := by decide +kernel
theorem dX8_send_167 : decode cX8_send 167 = .ok (.getfield 82, 3) := by decide +kernel
theorem dX8_send_170 : decode cX8_send 170 = .ok (.iload_n 3, 1) := by decide +kernel
theorem dX8_send_171 : decode cX8_send 171 = .ok (.iastore, 1) := by decide +kernel
theorem dX8_send_172 : decode cX8_send 172 = .ok (.aload_n 0, 1) := by decide +kernel
theorem dX8_send_173 : decode cX8_send 173 = .ok (.getfield 54, 3) := by decide +kernel
theorem dX8_send_176 : decode cX8_send 176 = .ok (.aload_n 0, 1) := by decide +kernel
theorem dX8_send_177 : decode cX8_send 177 = .ok (.getfield 82, 3) := by decide +kernel
theorem dX8_send_180 : decode cX8_send 180 = .ok (.iload 4, 2) := by decide +kernel
theorem dX8_send_182 : decode cX8_send 182 = .ok (.iastore, 1) := by decide +kernel
theorem dX8_send_183 : decode cX8_send 183 = .ok (.aload_n 0, 1) := by decide +kernel
theorem dX8_send_184 : decode cX8_send 184 = .ok (.getfield 57, 3) := by decide +kernel
theorem dX8_send_187 : decode cX8_send 187 = .ok (.aload_n 0, 1) := by decide +kernel
theorem dX8_send_188 : decode cX8_send 188 = .ok (.getfield 82, 3) := by decide +kernel
theorem dX8_send_191 : decode cX8_send 191 = .ok (.iload_n 1, 1) := by decide +kernel
theorem dX8_send_192 : decode cX8_send 192 = .ok (.iastore, 1) := by decide +kernel
theorem dX8_send_193 : decode cX8_send 193 = .ok (.aload_n 0, 1) := by decide +kernel
theorem dX8_send_194 : decode cX8_send 194 = .ok (.getfield 60, 3) := by decide +kernel
theorem dX8_send_197 : decode cX8_send 197 = .ok (.aload_n 0, 1) := by decide +kernel
theorem dX8_send_198 : decode cX8_send 198 = .ok (.getfield 82, 3) := by decide +kernel
theorem dX8_send_201 : decode cX8_send 201 = .ok (.iconst 0, 1) := by decide +kernel
theorem dX8_send_202 : decode cX8_send 202 = .ok (.iastore, 1) := by decide +kernel
theorem dX8_send_203 : decode cX8_send 203 = .ok (.aload_n 0, 1) := by decide +kernel
theorem dX8_send_204 : decode cX8_send 204 = .ok (.getfield 63, 3) := by decide +kernel
theorem dX8_send_207 : decode cX8_send 207 = .ok (.aload_n 0, 1) := by decide +kernel
theorem dX8_send_208 : decode cX8_send 208 = .ok (.getfield 82, 3) := by decide +kernel
theorem dX8_send_211 : decode cX8_send 211 = .ok (.iconst 0, 1) := by decide +kernel
theorem dX8_send_212 : decode cX8_send 212 = .ok (.bastore, 1) := by decide +kernel
theorem dX8_send_213 : decode cX8_send 213 = .ok (.aload_n 0, 1) := by decide +kernel
theorem dX8_send_214 : decode cX8_send 214 = .ok (.iload_n 1, 1) := by decide +kernel
theorem dX8_send_215 : decode cX8_send 215 = .ok (.iconst 4, 1) := by decide +kernel
theorem dX8_send_216 : decode cX8_send 216 = .ok (.iload_n 3, 1) := by decide +kernel
theorem dX8_send_217 : decode cX8_send 217 = .ok (.invokestatic 110, 3) := by decide +kernel
theorem dX8_send_220 : decode cX8_send 220 = .ok (.aload_n 0, 1) := by decide +kernel
theorem dX8_send_221 : decode cX8_send 221 = .ok (.getfield 82, 3) := by decide +kernel
theorem dX8_send_224 : decode cX8_send 224 = .ok (.invokevirtual 114, 3) := by decide +kernel
theorem dX8_send_227 : decode cX8_send 227 = .ok (.aload_n 0, 1) := by decide +kernel
theorem dX8_send_228 : decode cX8_send 228 = .ok (.getfield 38, 3) := by decide +kernel
theorem dX8_send_231 : decode cX8_send 231 = .ok (.iload_n 1, 1) := by decide +kernel
theorem dX8_send_232 : decode cX8_send 232 = .ok (.aload_n 0, 1) := by decide +kernel
theorem dX8_send_233 : decode cX8_send 233 = .ok (.getfield 100, 3) := by decide +kernel
theorem dX8_send_236 : decode cX8_send 236 = .ok (.iastore, 1) := by decide +kernel
theorem dX8_send_237 : decode cX8_send 237 = .ok (.aload_n 0, 1) := by decide +kernel
theorem dX8_send_238 : decode cX8_send 238 = .ok (.dup, 1) := by decide +kernel
theorem dX8_send_239 : decode cX8_send 239 = .ok (.getfield 82, 3) := by decide +kernel
theorem dX8_send_242 : decode cX8_send 242 = .ok (.iconst 1, 1) := by decide +kernel
theorem dX8_send_243 : decode cX8_send 243 = .ok (.iadd, 1) := by decide +kernel
theorem dX8_send_244 : decode cX8_send 244 = .ok (.putfield 82, 3) := by decide +kernel
theorem dX8_send_247 : decode cX8_send 247 = .ok (.aload_n 0, 1) := by decide +kernel
theorem dX8_send_248 : decode cX8_send 248 = .ok (.getfield 82, 3) := by decide +kernel
theorem dX8_send_251 : decode cX8_send 251 = .ok (.iconst 1, 1) := by decide +kernel
theorem dX8_send_252 : decode cX8_send 252 = .ok (.isub, 1) := by decide +kernel
theorem dX8_send_253 : decode cX8_send 253 = .ok (.ireturn, 1) := by decide +kernel
theorem dX8_wanted_0 : decode cX8_wanted 0 = .ok (.aload_n 0, 1) := by decide +kernel
theorem dX8_wanted_1 : decode cX8_wanted 1 = .ok (.getfield 45, 3) := by decide +kernel
theorem dX8_wanted_4 : decode cX8_wanted 4 = .ok (.iload_n 1, 1) := by decide +kernel
theorem dX8_wanted_5 : decode cX8_wanted 5 = .ok (.iaload, 1) := by decide +kernel
theorem dX8_wanted_6 : decode cX8_wanted 6 = .ok (.aload_n 0, 1) := by decide +kernel
theorem dX8_wanted_7 : decode cX8_wanted 7 = .ok (.getfield 7, 3) := by decide +kernel
theorem dX8_wanted_10 : decode cX8_wanted 10 = .ok (.irem, 1) := by decide +kernel
theorem dX8_wanted_11 : decode cX8_wanted 11 = .ok (.iload_n 2, 1) := by decide +kernel
theorem dX8_wanted_12 : decode cX8_wanted 12 = .ok (.aload_n 0, 1) := by decide +kernel
theorem dX8_wanted_13 : decode cX8_wanted 13 = .ok (.getfield 7, 3) := by decide +kernel
theorem dX8_wanted_16 : decode cX8_wanted 16 = .ok (.irem, 1) := by decide +kernel
theorem dX8_wanted_17 : decode cX8_wanted 17 = .ok (.isub, 1) := by decide +kernel
theorem dX8_wanted_18 : decode cX8_wanted 18 = .ok (.istore_n 3, 1) := by decide +kernel
theorem dX8_wanted_19 : decode cX8_wanted 19 = .ok (.aload_n 0, 1) := by decide +kernel
theorem dX8_wanted_20 : decode cX8_wanted 20 = .ok (.getfield 45, 3) := by decide +kernel
theorem dX8_wanted_23 : decode cX8_wanted 23 = .ok (.iload_n 1, 1) := by decide +kernel
theorem dX8_wanted_24 : decode cX8_wanted 24 = .ok (.iaload, 1) := by decide +kernel
theorem dX8_wanted_25 : decode cX8_wanted 25 = .ok (.aload_n 0, 1) := by decide +kernel
theorem dX8_wanted_26 : decode cX8_wanted 26 = .ok (.getfield 7, 3) := by decide +kernel
theorem dX8_wanted_29 : decode cX8_wanted 29 = .ok (.idiv, 1) := by decide +kernel
theorem dX8_wanted_30 : decode cX8_wanted 30 = .ok (.iload_n 2, 1) := by decide +kernel
theorem dX8_wanted_31 : decode cX8_wanted 31 = .ok (.aload_n 0, 1) := by decide +kernel
theorem dX8_wanted_32 : decode cX8_wanted 32 = .ok (.getfield 7, 3) := by decide +kernel
theorem dX8_wanted_35 : decode cX8_wanted 35 = .ok (.idiv, 1) := by decide +kernel
theorem dX8_wanted_36 : decode cX8_wanted 36 = .ok (.isub, 1) := by decide +kernel
theorem dX8_wanted_37 : decode cX8_wanted 37 = .ok (.istore 4, 2) := by decide +kernel
theorem dX8_wanted_39 : decode cX8_wanted 39 = .ok (.iload_n 3, 1) := by decide +kernel
theorem dX8_wanted_40 : decode cX8_wanted 40 = .ok (.ifCond .le 7, 3) := by decide +kernel
theorem dX8_wanted_43 : decode cX8_wanted 43 = .ok (.iconst 0, 1) := by decide +kernel
theorem dX8_wanted_44 : decode cX8_wanted 44 = .ok (.goto 12, 3) := by decide +kernel
theorem dX8_wanted_47 : decode cX8_wanted 47 = .ok (.iload_n 3, 1) := by decide +kernel
theorem dX8_wanted_48 : decode cX8_wanted 48 = .ok (.ifCond .ge 7, 3) := by decide +kernel
theorem dX8_wanted_51 : decode cX8_wanted 51 = .ok (.iconst 2, 1) := by decide +kernel
theorem dX8_wanted_52 : decode cX8_wanted 52 = .ok (.goto 4, 3) := by decide +kernel
theorem dX8_wanted_55 : decode cX8_wanted 55 = .ok (.iconst (-1), 1) := by decide +kernel
theorem dX8_wanted_56 : decode cX8_wanted 56 = .ok (.istore 5, 2) := by decide +kernel
theorem dX8_wanted_58 : decode cX8_wanted 58 = .ok (.iload 4, 2) := by decide +kernel
theorem dX8_wanted_60 : decode cX8_wanted 60 = .ok (.ifCond .le 7, 3) := by decide +kernel
theorem dX8_wanted_63 : decode cX8_wanted 63 = .ok (.iconst 1, 1) := by decide +kernel
theorem dX8_wanted_64 : decode cX8_wanted 64 = .ok (.goto 13, 3) := by decide +kernel
theorem dX8_wanted_67 : decode cX8_wanted 67 = .ok (.iload 4, 2) := by decide +kernel
theorem dX8_wanted_69 : decode cX8_wanted 69 = .ok (.ifCond .ge 7, 3) := by decide +kernel
theorem dX8_wanted_72 : decode cX8_wanted 72 = .ok (.iconst 3, 1) := by decide +kernel
theorem dX8_wanted_73 : decode cX8_wanted 73 = .ok (.goto 4, 3) := by decide +kernel
theorem dX8_wanted_76 : decode cX8_wanted 76 = .ok (.iconst (-1), 1) := by decide +kernel
theorem dX8_wanted_77 : decode cX8_wanted 77 = .ok (.istore 6, 2) := by decide +kernel
theorem dX8_wanted_79 : decode cX8_wanted 79 = .ok (.aload_n 0, 1) := by decide +kernel
theorem dX8_wanted_80 : decode cX8_wanted 80 = .ok (.getfield 54, 3) := by decide +kernel
theorem dX8_wanted_83 : decode cX8_wanted 83 = .ok (.iload_n 1, 1) := by decide +kernel
theorem dX8_wanted_84 : decode cX8_wanted 84 = .ok (.iaload, 1) := by decide +kernel
theorem dX8_wanted_85 : decode cX8_wanted 85 = .ok (.ifCond .ne 8, 3) := by decide +kernel
theorem dX8_wanted_88 : decode cX8_wanted 88 = .ok (.iload 5, 2) := by decide +kernel
theorem dX8_wanted_90 : decode cX8_wanted 90 = .ok (.goto 5, 3) := by decide +kernel
theorem dX8_wanted_93 : decode cX8_wanted 93 = .ok (.iload 6, 2) := by decide +kernel
theorem dX8_wanted_95 : decode cX8_wanted 95 = .ok (.istore 7, 2) := by decide +kernel
theorem dX8_wanted_97 : decode cX8_wanted 97 = .ok (.aload_n 0, 1) := by decide +kernel
theorem dX8_wanted_98 : decode cX8_wanted 98 = .ok (.getfield 54, 3) := by decide +kernel
theorem dX8_wanted_101 : decode cX8_wanted 101 = .ok (.iload_n 1, 1) := by decide +kernel
theorem dX8_wanted_102 : decode cX8_wanted 102 = .ok (.iaload, 1) := by decide +kernel
theorem dX8_wanted_103 : decode cX8_wanted 103 = .ok (.ifCond .ne 8, 3) := by decide +kernel
theorem dX8_wanted_106 : decode cX8_wanted 106 = .ok (.iload 6, 2) := by decide +kernel
theorem dX8_wanted_108 : decode cX8_wanted 108 = .ok (.goto 5, 3) := by decide +kernel
theorem dX8_wanted_111 : decode cX8_wanted 111 = .ok (.iload 5, 2) := by decide +kernel
theorem dX8_wanted_113 : decode cX8_wanted 113 = .ok (.istore 8, 2) := by decide +kernel
theorem dX8_wanted_115 : decode cX8_wanted 115 = .ok (.iload 7, 2) := by decide +kernel
theorem dX8_wanted_117 : decode cX8_wanted 117 = .ok (.ifCond .lt 8, 3) := by decide +kernel
theorem dX8_wanted_120 : decode cX8_wanted 120 = .ok (.iload 7, 2) := by decide +kernel
theorem dX8_wanted_122 : decode cX8_wanted 122 = .ok (.goto 14, 3) := by decide +kernel
theorem dX8_wanted_125 : decode cX8_wanted 125 = .ok (.iload 8, 2) := by decide +kernel
theorem dX8_wanted_127 : decode cX8_wanted 127 = .ok (.ifCond .lt 8, 3) := by decide +kernel
theorem dX8_wanted_130 : decode cX8_wanted 130 = .ok (.iload 8, 2) := by decide +kernel
theorem dX8_wanted_132 : decode cX8_wanted 132 = .ok (.goto 4, 3) := by decide +kernel
theorem dX8_wanted_135 : decode cX8_wanted 135 = .ok (.iconst 4, 1) := by decide +kernel
theorem dX8_wanted_136 : decode cX8_wanted 136 = .ok (.ireturn, 1) := by decide +kernel
set_option maxRecDepth 20000 in
theorem ggX8_canGo_X8_linkOf : GoodIn wsX8_canGo wsX8_linkOf := goodIn_r _ [6] (by decide +kernel) (by decide +kernel)
set_option maxRecDepth 20000 in
theorem gX8_canGo_X8_linkOf : GoodIn wsX8_canGo (va_wsS RX8 118 yX8_linkOf wsX8_linkOf) := goodIn_app (goodIn_of _ (by decide +kernel)) ggX8_canGo_X8_linkOf
set_option maxRecDepth 20000 in
theorem ggX8_canGo_X8_neighbour : GoodIn wsX8_canGo wsX8_neighbour := goodIn_r _ [10, 11, 12, 13, 14, 15, 16, 17, 18, 19, 20, 21, 22, 23, 24, 25, 26, 27, 28, 29, 30, 31, 32, 33, 34, 35, 36, 37, 38] (by decide +kernel) (by decide +kernel)
set_option maxRecDepth 20000 in
theorem gX8_canGo_X8_neighbour : GoodIn wsX8_canGo (wsV RX8 93 RX8 yX8_neighbour wsX8_neighbour) := goodIn_app (goodIn_of _ (by decide +kernel)) ggX8_canGo_X8_neighbour
theorem dX8_canGo_0 : decode cX8_canGo 0 = .ok (.iload_n 2, 1) := by decide +kernel
theorem dX8_canGo_1 : decode cX8_canGo 1 = .ok (.iconst 4, 1) := by decide +kernel
theorem dX8_canGo_2 : decode cX8_canGo 2 = .ok (.if_icmp .eq 31, 3) := by decide +kernel
theorem dX8_canGo_5 : decode cX8_canGo 5 = .ok (.aload_n 0, 1) := by decide +kernel
theorem dX8_canGo_6 : decode cX8_canGo 6 = .ok (.getfield 26, 3) := by decide +kernel
theorem dX8_canGo_9 : decode cX8_canGo 9 = .ok (.iload_n 1, 1) := by decide +kernel
theorem dX8_canGo_10 : decode cX8_canGo 10 = .ok (.iload_n 2, 1) := by decide +kernel
theorem dX8_canGo_11 : decode cX8_canGo 11 = .ok (.iload_n 3, 1) := by decide +kernel
theorem dX8_canGo_12 : decode cX8_canGo 12 = .ok (.invokestatic 118, 3) := by decide +kernel
theorem dX8_canGo_15 : decode cX8_canGo 15 = .ok (.iaload, 1) := by decide +kernel
theorem dX8_canGo_16 : decode cX8_canGo 16 = .ok (.ifCond .le 21, 3) := by decide +kernel
theorem dX8_canGo_19 : decode cX8_canGo 19 = .ok (.aload_n 0, 1) := by decide +kernel
theorem dX8_canGo_20 : decode cX8_canGo 20 = .ok (.getfield 41, 3) := by decide +kernel
theorem dX8_canGo_23 : decode cX8_canGo 23 = .ok (.aload_n 0, 1) := by decide +kernel
theorem dX8_canGo_24 : decode cX8_canGo 24 = .ok (.iload_n 1, 1) := by decide +kernel
theorem dX8_canGo_25 : decode cX8_canGo 25 = .ok (.iload_n 2, 1) := by decide +kernel
theorem dX8_canGo_26 : decode cX8_canGo 26 = .ok (.invokevirtual 93, 3) := by decide +kernel
theorem dX8_canGo_29 : decode cX8_canGo 29 = .ok (.baload, 1) := by decide +kernel
theorem dX8_canGo_30 : decode cX8_canGo 30 = .ok (.ifCond .ne 7, 3) := by decide +kernel
theorem dX8_canGo_33 : decode cX8_canGo 33 = .ok (.iconst 1, 1) := by decide +kernel
theorem dX8_canGo_34 : decode cX8_canGo 34 = .ok (.goto 4, 3) := by decide +kernel
theorem dX8_canGo_37 : decode cX8_canGo 37 = .ok (.iconst 0, 1) := by decide +kernel
theorem dX8_canGo_38 : decode cX8_canGo 38 = .ok (.ireturn, 1) := by decide +kernel
set_option maxRecDepth 20000 in
theorem ggX8_chooses_X8_wanted : GoodIn wsX8_chooses wsX8_wanted := goodIn_r _ [9, 10, 11, 12, 27, 28, 29, 30, 31, 32, 33, 34, 35, 36, 37, 38, 39, 40, 41, 42, 43, 44, 45, 46, 47, 48, 49, 50, 51, 52] (by decide +kernel) (by decide +kernel)
set_option maxRecDepth 20000 in
theorem gX8_chooses_X8_wanted : GoodIn wsX8_chooses (wsV RX8 121 RX8 yX8_wanted wsX8_wanted) := goodIn_app (goodIn_of _ (by decide +kernel)) ggX8_chooses_X8_wanted
set_option maxRecDepth 20000 in
theorem ggX8_chooses_X8_canGo : GoodIn wsX8_chooses wsX8_canGo := goodIn_r _ [16, 17, 18, 19, 20, 8, 21, 22, 23, 24, 25, 11, 26, 27, 28, 29, 30, 31, 32, 33, 34, 35, 36, 37, 38, 39, 40, 41, 42, 43, 44, 45, 46, 47, 48, 49, 50, 51, 52] (by decide +kernel) (by decide +kernel)
set_option maxRecDepth 20000 in
theorem gX8_chooses_X8_canGo : GoodIn wsX8_chooses (wsV RX8 124 RX8 yX8_canGo wsX8_canGo) := goodIn_app (goodIn_of _ (by decide +kernel)) ggX8_chooses_X8_canGo
theorem dX8_chooses_0 : decode cX8_chooses 0 = .ok (.iload_n 1, 1) := by decide +kernel
theorem dX8_chooses_1 : decode cX8_chooses 1 = .ok (.iconst 5, 1) := by decide +kernel
theorem dX8_chooses_2 : decode cX8_chooses 2 = .ok (.imul, 1) := by decide +kernel
theorem dX8_chooses_3 : decode cX8_chooses 3 = .ok (.iload_n 2, 1) := by decide +kernel
theorem dX8_chooses_4 : decode cX8_chooses 4 = .ok (.iadd, 1) := by decide +kernel
theorem dX8_chooses_5 : decode cX8_chooses 5 = .ok (.istore_n 3, 1) := by decide +kernel
theorem dX8_chooses_6 : decode cX8_chooses 6 = .ok (.aload_n 0, 1) := by decide +kernel
theorem dX8_chooses_7 : decode cX8_chooses 7 = .ok (.getfield 66, 3) := by decide +kernel
theorem dX8_chooses_10 : decode cX8_chooses 10 = .ok (.iload_n 3, 1) := by decide +kernel
theorem dX8_chooses_11 : decode cX8_chooses 11 = .ok (.iconst (-1), 1) := by decide +kernel
theorem dX8_chooses_12 : decode cX8_chooses 12 = .ok (.iastore, 1) := by decide +kernel
theorem dX8_chooses_13 : decode cX8_chooses 13 = .ok (.iconst 0, 1) := by decide +kernel
theorem dX8_chooses_14 : decode cX8_chooses 14 = .ok (.istore 4, 2) := by decide +kernel
theorem dX8_chooses_16 : decode cX8_chooses 16 = .ok (.iload 4, 2) := by decide +kernel
theorem dX8_chooses_18 : decode cX8_chooses 18 = .ok (.bipush 10, 2) := by decide +kernel
theorem dX8_chooses_20 : decode cX8_chooses 20 = .ok (.if_icmp .ge 106, 3) := by decide +kernel
theorem dX8_chooses_23 : decode cX8_chooses 23 = .ok (.aload_n 0, 1) := by decide +kernel
theorem dX8_chooses_24 : decode cX8_chooses 24 = .ok (.getfield 66, 3) := by decide +kernel
theorem dX8_chooses_27 : decode cX8_chooses 27 = .ok (.iload_n 3, 1) := by decide +kernel
theorem dX8_chooses_28 : decode cX8_chooses 28 = .ok (.iaload, 1) := by decide +kernel
theorem dX8_chooses_29 : decode cX8_chooses 29 = .ok (.ifCond .ge 97, 3) := by decide +kernel
theorem dX8_chooses_32 : decode cX8_chooses 32 = .ok (.aload_n 0, 1) := by decide +kernel
theorem dX8_chooses_33 : decode cX8_chooses 33 = .ok (.getfield 32, 3) := by decide +kernel
theorem dX8_chooses_36 : decode cX8_chooses 36 = .ok (.iload_n 3, 1) := by decide +kernel
theorem dX8_chooses_37 : decode cX8_chooses 37 = .ok (.iaload, 1) := by decide +kernel
theorem dX8_chooses_38 : decode cX8_chooses 38 = .ok (.iload 4, 2) := by decide +kernel
theorem dX8_chooses_40 : decode cX8_chooses 40 = .ok (.iadd, 1) := by decide +kernel
theorem dX8_chooses_41 : decode cX8_chooses 41 = .ok (.bipush 10, 2) := by decide +kernel
theorem dX8_chooses_43 : decode cX8_chooses 43 = .ok (.irem, 1) := by decide +kernel
theorem dX8_chooses_44 : decode cX8_chooses 44 = .ok (.istore 5, 2) := by decide +kernel
theorem dX8_chooses_46 : decode cX8_chooses 46 = .ok (.iload_n 1, 1) := by decide +kernel
theorem dX8_chooses_47 : decode cX8_chooses 47 = .ok (.bipush 10, 2) := by decide +kernel
theorem dX8_chooses_49 : decode cX8_chooses 49 = .ok (.imul, 1) := by decide +kernel
theorem dX8_chooses_50 : decode cX8_chooses 50 = .ok (.iload 5, 2) := by decide +kernel
theorem dX8_chooses_52 : decode cX8_chooses 52 = .ok (.iadd, 1) := by decide +kernel
theorem dX8_chooses_53 : decode cX8_chooses 53 = .ok (.istore 6, 2) := by decide +kernel
theorem dX8_chooses_55 : decode cX8_chooses 55 = .ok (.aload_n 0, 1) := by decide +kernel
theorem dX8_chooses_56 : decode cX8_chooses 56 = .ok (.getfield 23, 3) := by decide +kernel
theorem dX8_chooses_59 : decode cX8_chooses 59 = .ok (.iload 6, 2) := by decide +kernel
theorem dX8_chooses_61 : decode cX8_chooses 61 = .ok (.iaload, 1) := by decide +kernel
theorem dX8_chooses_62 : decode cX8_chooses 62 = .ok (.ifCond .le 38, 3) := by decide +kernel
theorem dX8_chooses_65 : decode cX8_chooses 65 = .ok (.aload_n 0, 1) := by decide +kernel
theorem dX8_chooses_66 : decode cX8_chooses 66 = .ok (.aload_n 0, 1) := by decide +kernel
theorem dX8_chooses_67 : decode cX8_chooses 67 = .ok (.getfield 19, 3) := by decide +kernel
theorem dX8_chooses_70 : decode cX8_chooses 70 = .ok (.iconst 3, 1) := by decide +kernel
theorem dX8_chooses_71 : decode cX8_chooses 71 = .ok (.iload 6, 2) := by decide +kernel
theorem dX8_chooses_73 : decode cX8_chooses 73 = .ok (.imul, 1) := by decide +kernel
theorem dX8_chooses_74 : decode cX8_chooses 74 = .ok (.iaload, 1) := by decide +kernel
theorem dX8_chooses_75 : decode cX8_chooses 75 = .ok (.iload_n 1, 1) := by decide +kernel
theorem dX8_chooses_76 : decode cX8_chooses 76 = .ok (.invokevirtual 121, 3) := by decide +kernel
theorem dX8_chooses_79 : decode cX8_chooses 79 = .ok (.iload_n 2, 1) := by decide +kernel
theorem dX8_chooses_80 : decode cX8_chooses 80 = .ok (.if_icmp .ne 20, 3) := by decide +kernel
theorem dX8_chooses_83 : decode cX8_chooses 83 = .ok (.aload_n 0, 1) := by decide +kernel
theorem dX8_chooses_84 : decode cX8_chooses 84 = .ok (.iload_n 1, 1) := by decide +kernel
theorem dX8_chooses_85 : decode cX8_chooses 85 = .ok (.iload_n 2, 1) := by decide +kernel
theorem dX8_chooses_86 : decode cX8_chooses 86 = .ok (.iload 5, 2) := by decide +kernel
theorem dX8_chooses_88 : decode cX8_chooses 88 = .ok (.iconst 2, 1) := by decide +kernel
theorem dX8_chooses_89 : decode cX8_chooses 89 = .ok (.irem, 1) := by decide +kernel
theorem dX8_chooses_90 : decode cX8_chooses 90 = .ok (.invokevirtual 124, 3) := by decide +kernel
theorem dX8_chooses_93 : decode cX8_chooses 93 = .ok (.ifCond .eq 7, 3) := by decide +kernel
theorem dX8_chooses_96 : decode cX8_chooses 96 = .ok (.iconst 1, 1) := by decide +kernel
theorem dX8_chooses_97 : decode cX8_chooses 97 = .ok (.goto 4, 3) := by decide +kernel
theorem dX8_chooses_100 : decode cX8_chooses 100 = .ok (.iconst 0, 1) := by decide +kernel
theorem dX8_chooses_101 : decode cX8_chooses 101 = .ok (.istore 7, 2) := by decide +kernel
theorem dX8_chooses_103 : decode cX8_chooses 103 = .ok (.aload_n 0, 1) := by decide +kernel
theorem dX8_chooses_104 : decode cX8_chooses 104 = .ok (.getfield 66, 3) := by decide +kernel
theorem dX8_chooses_107 : decode cX8_chooses 107 = .ok (.iload_n 3, 1) := by decide +kernel
theorem dX8_chooses_108 : decode cX8_chooses 108 = .ok (.iload 7, 2) := by decide +kernel
theorem dX8_chooses_110 : decode cX8_chooses 110 = .ok (.ifCond .eq 8, 3) := by decide +kernel
theorem dX8_chooses_113 : decode cX8_chooses 113 = .ok (.iload 5, 2) := by decide +kernel
theorem dX8_chooses_115 : decode cX8_chooses 115 = .ok (.goto 4, 3) := by decide +kernel
theorem dX8_chooses_118 : decode cX8_chooses 118 = .ok (.iconst (-1), 1) := by decide +kernel
theorem dX8_chooses_119 : decode cX8_chooses 119 = .ok (.iastore, 1) := by decide +kernel
theorem dX8_chooses_120 : decode cX8_chooses 120 = .ok (.iinc 4 1, 3) := by decide +kernel
theorem dX8_chooses_123 : decode cX8_chooses 123 = .ok (.goto (-107), 3) := by decide +kernel
theorem dX8_chooses_126 : decode cX8_chooses 126 = .ok (.return_, 1) := by decide +kernel
theorem dX8_inSwitch_0 : decode cX8_inSwitch 0 = .ok (.iconst 0, 1) := by decide +kernel
theorem dX8_inSwitch_1 : decode cX8_inSwitch 1 = .ok (.istore_n 2, 1) := by decide +kernel
theorem dX8_inSwitch_2 : decode cX8_inSwitch 2 = .ok (.iconst 0, 1) := by decide +kernel
theorem dX8_inSwitch_3 : decode cX8_inSwitch 3 = .ok (.istore_n 3, 1) := by decide +kernel
theorem dX8_inSwitch_4 : decode cX8_inSwitch 4 = .ok (.iload_n 3, 1) := by decide +kernel
theorem dX8_inSwitch_5 : decode cX8_inSwitch 5 = .ok (.bipush 10, 2) := by decide +kernel
theorem dX8_inSwitch_7 : decode cX8_inSwitch 7 = .ok (.if_icmp .ge 23, 3) := by decide +kernel
theorem dX8_inSwitch_10 : decode cX8_inSwitch 10 = .ok (.iload_n 2, 1) := by decide +kernel
theorem dX8_inSwitch_11 : decode cX8_inSwitch 11 = .ok (.aload_n 0, 1) := by decide +kernel
theorem dX8_inSwitch_12 : decode cX8_inSwitch 12 = .ok (.getfield 23, 3) := by decide +kernel
theorem dX8_inSwitch_15 : decode cX8_inSwitch 15 = .ok (.iload_n 1, 1) := by decide +kernel
theorem dX8_inSwitch_16 : decode cX8_inSwitch 16 = .ok (.bipush 10, 2) := by decide +kernel
theorem dX8_inSwitch_18 : decode cX8_inSwitch 18 = .ok (.imul, 1) := by decide +kernel
theorem dX8_inSwitch_19 : decode cX8_inSwitch 19 = .ok (.iload_n 3, 1) := by decide +kernel
theorem dX8_inSwitch_20 : decode cX8_inSwitch 20 = .ok (.iadd, 1) := by decide +kernel
theorem dX8_inSwitch_21 : decode cX8_inSwitch 21 = .ok (.iaload, 1) := by decide +kernel
theorem dX8_inSwitch_22 : decode cX8_inSwitch 22 = .ok (.iadd, 1) := by decide +kernel
theorem dX8_inSwitch_23 : decode cX8_inSwitch 23 = .ok (.istore_n 2, 1) := by decide +kernel
theorem dX8_inSwitch_24 : decode cX8_inSwitch 24 = .ok (.iinc 3 1, 3) := by decide +kernel
theorem dX8_inSwitch_27 : decode cX8_inSwitch 27 = .ok (.goto (-23), 3) := by decide +kernel
theorem dX8_inSwitch_30 : decode cX8_inSwitch 30 = .ok (.iload_n 2, 1) := by decide +kernel
theorem dX8_inSwitch_31 : decode cX8_inSwitch 31 = .ok (.ireturn, 1) := by decide +kernel
theorem dX8_comeBack_0 : decode cX8_comeBack 0 = .ok (.iconst 0, 1) := by decide +kernel
theorem dX8_comeBack_1 : decode cX8_comeBack 1 = .ok (.istore_n 1, 1) := by decide +kernel
theorem dX8_comeBack_2 : decode cX8_comeBack 2 = .ok (.iload_n 1, 1) := by decide +kernel
theorem dX8_comeBack_3 : decode cX8_comeBack 3 = .ok (.sipush 128, 3) := by decide +kernel
theorem dX8_comeBack_6 : decode cX8_comeBack 6 = .ok (.if_icmp .ge 49, 3) := by decide +kernel
theorem dX8_comeBack_9 : decode cX8_comeBack 9 = .ok (.aload_n 0, 1) := by decide +kernel
theorem dX8_comeBack_10 : decode cX8_comeBack 10 = .ok (.getfield 26, 3) := by decide +kernel
theorem dX8_comeBack_13 : decode cX8_comeBack 13 = .ok (.iload_n 1, 1) := by decide +kernel
theorem dX8_comeBack_14 : decode cX8_comeBack 14 = .ok (.dup2, 1) := by decide +kernel
theorem dX8_comeBack_15 : decode cX8_comeBack 15 = .ok (.iaload, 1) := by decide +kernel
theorem dX8_comeBack_16 : decode cX8_comeBack 16 = .ok (.aload_n 0, 1) := by decide +kernel
theorem dX8_comeBack_17 : decode cX8_comeBack 17 = .ok (.getfield 29, 3) := by decide +kernel
theorem dX8_comeBack_20 : decode cX8_comeBack 20 = .ok (.iconst 5, 1) := by decide +kernel
theorem dX8_comeBack_21 : decode cX8_comeBack 21 = .ok (.iload_n 1, 1) := by decide +kernel
theorem dX8_comeBack_22 : decode cX8_comeBack 22 = .ok (.imul, 1) := by decide +kernel
theorem dX8_comeBack_23 : decode cX8_comeBack 23 = .ok (.aload_n 0, 1) := by decide +kernel
theorem dX8_comeBack_24 : decode cX8_comeBack 24 = .ok (.getfield 100, 3) := by decide +kernel
theorem dX8_comeBack_27 : decode cX8_comeBack 27 = .ok (.iconst 5, 1) := by decide +kernel
theorem dX8_comeBack_28 : decode cX8_comeBack 28 = .ok (.irem, 1) := by decide +kernel
theorem dX8_comeBack_29 : decode cX8_comeBack 29 = .ok (.iadd, 1) := by decide +kernel
theorem dX8_comeBack_30 : decode cX8_comeBack 30 = .ok (.iaload, 1) := by decide +kernel
theorem dX8_comeBack_31 : decode cX8_comeBack 31 = .ok (.iadd, 1) := by decide +kernel
theorem dX8_comeBack_32 : decode cX8_comeBack 32 = .ok (.iastore, 1) := by decide +kernel
theorem dX8_comeBack_33 : decode cX8_comeBack 33 = .ok (.aload_n 0, 1) := by decide +kernel
theorem dX8_comeBack_34 : decode cX8_comeBack 34 = .ok (.getfield 29, 3) := by decide +kernel
theorem dX8_comeBack_37 : decode cX8_comeBack 37 = .ok (.iconst 5, 1) := by decide +kernel
theorem dX8_comeBack_38 : decode cX8_comeBack 38 = .ok (.iload_n 1, 1) := by decide +kernel
theorem dX8_comeBack_39 : decode cX8_comeBack 39 = .ok (.imul, 1) := by decide +kernel
theorem dX8_comeBack_40 : decode cX8_comeBack 40 = .ok (.aload_n 0, 1) := by decide +kernel
theorem dX8_comeBack_41 : decode cX8_comeBack 41 = .ok (.getfield 100, 3) := by decide +kernel
theorem dX8_comeBack_44 : decode cX8_comeBack 44 = .ok (.iconst 5, 1) := by decide +kernel
theorem dX8_comeBack_45 : decode cX8_comeBack 45 = .ok (.irem, 1) := by decide +kernel
theorem dX8_comeBack_46 : decode cX8_comeBack 46 = .ok (.iadd, 1) := by decide +kernel
theorem dX8_comeBack_47 : decode cX8_comeBack 47 = .ok (.iconst 0, 1) := by decide +kernel
theorem dX8_comeBack_48 : decode cX8_comeBack 48 = .ok (.iastore, 1) := by decide +kernel
theorem dX8_comeBack_49 : decode cX8_comeBack 49 = .ok (.iinc 1 1, 3) := by decide +kernel
theorem dX8_comeBack_52 : decode cX8_comeBack 52 = .ok (.goto (-50), 3) := by decide +kernel
theorem dX8_comeBack_55 : decode cX8_comeBack 55 = .ok (.return_, 1) := by decide +kernel
set_option maxRecDepth 20000 in
theorem ggX8_leaves_X8_takes : GoodIn wsX8_leaves wsX8_takes := goodIn_r _ [11, 12, 13, 23, 24, 25, 26, 27, 28, 29, 30, 31, 32, 33, 34, 35, 36, 37, 38, 39, 40, 41, 42, 43, 44, 45, 46, 47, 48] (by decide +kernel) (by decide +kernel)
set_option maxRecDepth 20000 in
theorem gX8_leaves_X8_takes : GoodIn wsX8_leaves (wsV RX8 127 RX8 yX8_takes wsX8_takes) := goodIn_app (goodIn_of _ (by decide +kernel)) ggX8_leaves_X8_takes
set_option maxRecDepth 20000 in
theorem ggX8_leaves_X8_neighbour : GoodIn wsX8_leaves wsX8_neighbour := goodIn_r _ [17, 18, 19, 23, 24, 25, 26, 27, 28, 29, 30, 31, 32, 33, 34, 35, 36, 37, 38, 39, 40, 41, 42, 43, 44, 45, 46, 47, 48] (by decide +kernel) (by decide +kernel)
set_option maxRecDepth 20000 in
theorem gX8_leaves_X8_neighbour : GoodIn wsX8_leaves (wsV RX8 93 RX8 yX8_neighbour wsX8_neighbour) := goodIn_app (goodIn_of _ (by decide +kernel)) ggX8_leaves_X8_neighbour
set_option maxRecDepth 20000 in
theorem ggX8_leaves_X8_linkOf : GoodIn wsX8_leaves wsX8_linkOf := goodIn_r _ [22] (by decide +kernel) (by decide +kernel)
set_option maxRecDepth 20000 in
theorem gX8_leaves_X8_linkOf : GoodIn wsX8_leaves (va_wsS RX8 118 yX8_linkOf wsX8_linkOf) := goodIn_app (goodIn_of _ (by decide +kernel)) ggX8_leaves_X8_linkOf
theorem dX8_leaves_0 : decode cX8_leaves 0 = .ok (.iload_n 1, 1) := by decide +kernel
theorem dX8_leaves_1 : decode cX8_leaves 1 = .ok (.iconst 5, 1) := by decide +kernel
theorem dX8_leaves_2 : decode cX8_leaves 2 = .ok (.imul, 1) := by decide +kernel
theorem dX8_leaves_3 : decode cX8_leaves 3 = .ok (.iload_n 2, 1) := by decide +kernel
theorem dX8_leaves_4 : decode cX8_leaves 4 = .ok (.iadd, 1) := by decide +kernel
theorem dX8_leaves_5 : decode cX8_leaves 5 = .ok (.istore_n 3, 1) := by decide +kernel
theorem dX8_leaves_6 : decode cX8_leaves 6 = .ok (.aload_n 0, 1) := by decide +kernel
theorem dX8_leaves_7 : decode cX8_leaves 7 = .ok (.getfield 66, 3) := by decide +kernel
theorem dX8_leaves_10 : decode cX8_leaves 10 = .ok (.iload_n 3, 1) := by decide +kernel
theorem dX8_leaves_11 : decode cX8_leaves 11 = .ok (.iaload, 1) := by decide +kernel
theorem dX8_leaves_12 : decode cX8_leaves 12 = .ok (.istore 4, 2) := by decide +kernel
theorem dX8_leaves_14 : decode cX8_leaves 14 = .ok (.aload_n 0, 1) := by decide +kernel
theorem dX8_leaves_15 : decode cX8_leaves 15 = .ok (.getfield 32, 3) := by decide +kernel
theorem dX8_leaves_18 : decode cX8_leaves 18 = .ok (.iload_n 3, 1) := by decide +kernel
theorem dX8_leaves_19 : decode cX8_leaves 19 = .ok (.iload 4, 2) := by decide +kernel
theorem dX8_leaves_21 : decode cX8_leaves 21 = .ok (.iconst 1, 1) := by decide +kernel
theorem dX8_leaves_22 : decode cX8_leaves 22 = .ok (.iadd, 1) := by decide +kernel
theorem dX8_leaves_23 : decode cX8_leaves 23 = .ok (.bipush 10, 2) := by decide +kernel
theorem dX8_leaves_25 : decode cX8_leaves 25 = .ok (.irem, 1) := by decide +kernel
theorem dX8_leaves_26 : decode cX8_leaves 26 = .ok (.iastore, 1) := by decide +kernel
theorem dX8_leaves_27 : decode cX8_leaves 27 = .ok (.iload 4, 2) := by decide +kernel
theorem dX8_leaves_29 : decode cX8_leaves 29 = .ok (.iconst 2, 1) := by decide +kernel
theorem dX8_leaves_30 : decode cX8_leaves 30 = .ok (.idiv, 1) := by decide +kernel
theorem dX8_leaves_31 : decode cX8_leaves 31 = .ok (.istore 5, 2) := by decide +kernel
theorem dX8_leaves_33 : decode cX8_leaves 33 = .ok (.iload 4, 2) := by decide +kernel
theorem dX8_leaves_35 : decode cX8_leaves 35 = .ok (.iconst 2, 1) := by decide +kernel
theorem dX8_leaves_36 : decode cX8_leaves 36 = .ok (.irem, 1) := by decide +kernel
theorem dX8_leaves_37 : decode cX8_leaves 37 = .ok (.istore 6, 2) := by decide +kernel
theorem dX8_leaves_39 : decode cX8_leaves 39 = .ok (.aload_n 0, 1) := by decide +kernel
theorem dX8_leaves_40 : decode cX8_leaves 40 = .ok (.getfield 66, 3) := by decide +kernel
theorem dX8_leaves_43 : decode cX8_leaves 43 = .ok (.iload_n 3, 1) := by decide +kernel
theorem dX8_leaves_44 : decode cX8_leaves 44 = .ok (.aload_n 0, 1) := by decide +kernel
theorem dX8_leaves_45 : decode cX8_leaves 45 = .ok (.iload_n 1, 1) := by decide +kernel
theorem dX8_leaves_46 : decode cX8_leaves 46 = .ok (.bipush 10, 2) := by decide +kernel
theorem dX8_leaves_48 : decode cX8_leaves 48 = .ok (.imul, 1) := by decide +kernel
theorem dX8_leaves_49 : decode cX8_leaves 49 = .ok (.iload 4, 2) := by decide +kernel
theorem dX8_leaves_51 : decode cX8_leaves 51 = .ok (.iadd, 1) := by decide +kernel
theorem dX8_leaves_52 : decode cX8_leaves 52 = .ok (.invokevirtual 127, 3) := by decide +kernel
theorem dX8_leaves_55 : decode cX8_leaves 55 = .ok (.iastore, 1) := by decide +kernel
theorem dX8_leaves_56 : decode cX8_leaves 56 = .ok (.iload 5, 2) := by decide +kernel
theorem dX8_leaves_58 : decode cX8_leaves 58 = .ok (.iconst 4, 1) := by decide +kernel
theorem dX8_leaves_59 : decode cX8_leaves 59 = .ok (.if_icmp .ge 50, 3) := by decide +kernel
theorem dX8_leaves_62 : decode cX8_leaves 62 = .ok (.aload_n 0, 1) := by decide +kernel
theorem dX8_leaves_63 : decode cX8_leaves 63 = .ok (.iload_n 1, 1) := by decide +kernel
theorem dX8_leaves_64 : decode cX8_leaves 64 = .ok (.iload 5, 2) := by decide +kernel
theorem dX8_leaves_66 : decode cX8_leaves 66 = .ok (.iconst 2, 1) := by decide +kernel
theorem dX8_leaves_67 : decode cX8_leaves 67 = .ok (.iadd, 1) := by decide +kernel
theorem dX8_leaves_68 : decode cX8_leaves 68 = .ok (.iconst 4, 1) := by decide +kernel
theorem dX8_leaves_69 : decode cX8_leaves 69 = .ok (.irem, 1) := by decide +kernel
theorem dX8_leaves_70 : decode cX8_leaves 70 = .ok (.invokevirtual 93, 3) := by decide +kernel
theorem dX8_leaves_73 : decode cX8_leaves 73 = .ok (.istore 7, 2) := by decide +kernel
theorem dX8_leaves_75 : decode cX8_leaves 75 = .ok (.aload_n 0, 1) := by decide +kernel
theorem dX8_leaves_76 : decode cX8_leaves 76 = .ok (.getfield 29, 3) := by decide +kernel
theorem dX8_leaves_79 : decode cX8_leaves 79 = .ok (.iconst 5, 1) := by decide +kernel
theorem dX8_leaves_80 : decode cX8_leaves 80 = .ok (.iload 7, 2) := by decide +kernel
theorem dX8_leaves_82 : decode cX8_leaves 82 = .ok (.iload 5, 2) := by decide +kernel
theorem dX8_leaves_84 : decode cX8_leaves 84 = .ok (.iload 6, 2) := by decide +kernel
theorem dX8_leaves_86 : decode cX8_leaves 86 = .ok (.invokestatic 118, 3) := by decide +kernel
theorem dX8_leaves_89 : decode cX8_leaves 89 = .ok (.imul, 1) := by decide +kernel
theorem dX8_leaves_90 : decode cX8_leaves 90 = .ok (.aload_n 0, 1) := by decide +kernel
theorem dX8_leaves_91 : decode cX8_leaves 91 = .ok (.getfield 100, 3) := by decide +kernel
theorem dX8_leaves_94 : decode cX8_leaves 94 = .ok (.iconst 1, 1) := by decide +kernel
theorem dX8_leaves_95 : decode cX8_leaves 95 = .ok (.iadd, 1) := by decide +kernel
theorem dX8_leaves_96 : decode cX8_leaves 96 = .ok (.aload_n 0, 1) := by decide +kernel
theorem dX8_leaves_97 : decode cX8_leaves 97 = .ok (.getfield 97, 3) := by decide +kernel
theorem dX8_leaves_100 : decode cX8_leaves 100 = .ok (.iadd, 1) := by decide +kernel
theorem dX8_leaves_101 : decode cX8_leaves 101 = .ok (.iconst 5, 1) := by decide +kernel
theorem dX8_leaves_102 : decode cX8_leaves 102 = .ok (.irem, 1) := by decide +kernel
theorem dX8_leaves_103 : decode cX8_leaves 103 = .ok (.iadd, 1) := by decide +kernel
theorem dX8_leaves_104 : decode cX8_leaves 104 = .ok (.dup2, 1) := by decide +kernel
theorem dX8_leaves_105 : decode cX8_leaves 105 = .ok (.iaload, 1) := by decide +kernel
theorem dX8_leaves_106 : decode cX8_leaves 106 = .ok (.iconst 1, 1) := by decide +kernel
theorem dX8_leaves_107 : decode cX8_leaves 107 = .ok (.iadd, 1) := by decide +kernel
theorem dX8_leaves_108 : decode cX8_leaves 108 = .ok (.iastore, 1) := by decide +kernel
theorem dX8_leaves_109 : decode cX8_leaves 109 = .ok (.iload_n 2, 1) := by decide +kernel
theorem dX8_leaves_110 : decode cX8_leaves 110 = .ok (.iconst 4, 1) := by decide +kernel
theorem dX8_leaves_111 : decode cX8_leaves 111 = .ok (.if_icmp .ge 19, 3) := by decide +kernel
theorem dX8_leaves_114 : decode cX8_leaves 114 = .ok (.aload_n 0, 1) := by decide +kernel
theorem dX8_leaves_115 : decode cX8_leaves 115 = .ok (.getfield 26, 3) := by decide +kernel
theorem dX8_leaves_118 : decode cX8_leaves 118 = .ok (.iload_n 1, 1) := by decide +kernel
theorem dX8_leaves_119 : decode cX8_leaves 119 = .ok (.iload_n 2, 1) := by decide +kernel
theorem dX8_leaves_120 : decode cX8_leaves 120 = .ok (.iload 6, 2) := by decide +kernel
theorem dX8_leaves_122 : decode cX8_leaves 122 = .ok (.invokestatic 118, 3) := by decide +kernel
theorem dX8_leaves_125 : decode cX8_leaves 125 = .ok (.dup2, 1) := by decide +kernel
theorem dX8_leaves_126 : decode cX8_leaves 126 = .ok (.iaload, 1) := by decide +kernel
theorem dX8_leaves_127 : decode cX8_leaves 127 = .ok (.iconst 1, 1) := by decide +kernel
theorem dX8_leaves_128 : decode cX8_leaves 128 = .ok (.isub, 1) := by decide +kernel
theorem dX8_leaves_129 : decode cX8_leaves 129 = .ok (.iastore, 1) := by decide +kernel
theorem dX8_leaves_130 : decode cX8_leaves 130 = .ok (.return_, 1) := by decide +kernel
set_option maxRecDepth 20000 in
theorem ggX8_ticks_X8_comeBack : GoodIn wsX8_ticks wsX8_comeBack := goodIn_r _ [15, 16, 17, 10, 63, 64, 65, 66, 67, 68, 69, 70, 71, 72, 73, 74, 75, 76, 77, 78, 79, 80, 81, 82, 83, 84, 85, 86, 87, 88] (by decide +kernel) (by decide +kernel)
set_option maxRecDepth 20000 in
theorem gX8_ticks_X8_comeBack : GoodIn wsX8_ticks (wsV RX8 131 RX8 yX8_comeBack wsX8_comeBack) := goodIn_app (goodIn_of _ (by decide +kernel)) ggX8_ticks_X8_comeBack
set_option maxRecDepth 20000 in
theorem ggX8_ticks_X8_neighbour : GoodIn wsX8_ticks wsX8_neighbour := goodIn_r _ [21, 1, 2, 63, 64, 65, 66, 67, 68, 69, 70, 71, 72, 73, 74, 75, 76, 77, 78, 79, 80, 81, 82, 83, 84, 85, 86, 87, 88] (by decide +kernel) (by decide +kernel)
set_option maxRecDepth 20000 in
theorem gX8_ticks_X8_neighbour : GoodIn wsX8_ticks (wsV RX8 93 RX8 yX8_neighbour wsX8_neighbour) := goodIn_app (goodIn_of _ (by decide +kernel)) ggX8_ticks_X8_neighbour
set_option maxRecDepth 20000 in
theorem ggX8_ticks_X8_chooses : GoodIn wsX8_ticks wsX8_chooses := goodIn_r _ [25, 3, 26, 27, 28, 29, 30, 31, 14, 32, 33, 1, 34, 35, 36, 37, 38, 16, 39, 40, 41, 42, 18, 19, 20, 21, 2, 63, 64, 65, 66, 67, 68, 69, 70, 71, 72, 73, 74, 75, 76, 77, 78, 79, 80, 81, 82, 83, 84, 85, 86, 87, 88] (by decide +kernel) (by decide +kernel)
set_option maxRecDepth 20000 in
theorem gX8_ticks_X8_chooses : GoodIn wsX8_ticks (wsV RX8 134 RX8 yX8_chooses wsX8_chooses) := goodIn_app (goodIn_of _ (by decide +kernel)) ggX8_ticks_X8_chooses
set_option maxRecDepth 20000 in
theorem ggX8_ticks_X8_leaves : GoodIn wsX8_ticks wsX8_leaves := goodIn_r _ [46, 3, 26, 17, 10, 47, 16, 48, 49, 50, 14, 51, 28, 27, 18, 19, 20, 21, 1, 2, 40, 41, 42, 63, 64, 65, 66, 67, 68, 69, 70, 71, 72, 73, 74, 75, 76, 77, 78, 79, 80, 81, 82, 83, 84, 85, 86, 87, 88] (by decide +kernel) (by decide +kernel)
set_option maxRecDepth 20000 in
theorem gX8_ticks_X8_leaves : GoodIn wsX8_ticks (wsV RX8 137 RX8 yX8_leaves wsX8_leaves) := goodIn_app (goodIn_of _ (by decide +kernel)) ggX8_ticks_X8_leaves
set_option maxRecDepth 20000 in
theorem ggX8_ticks_X8_bufferOf : GoodIn wsX8_ticks wsX8_bufferOf := goodIn_r _ [54] (by decide +kernel) (by decide +kernel)
set_option maxRecDepth 20000 in
theorem gX8_ticks_X8_bufferOf : GoodIn wsX8_ticks (va_wsS RX8 110 yX8_bufferOf wsX8_bufferOf) := goodIn_app (goodIn_of _ (by decide +kernel)) ggX8_ticks_X8_bufferOf
set_option maxRecDepth 20000 in
theorem ggX8_ticks_X8_puts : GoodIn wsX8_ticks wsX8_puts := goodIn_r _ [58, 28, 27, 63, 64, 65, 66, 67, 68, 69, 70, 71, 72, 73, 74, 75, 76, 77, 78, 79, 80, 81, 82, 83, 84, 85, 86, 87, 88] (by decide +kernel) (by decide +kernel)
set_option maxRecDepth 20000 in
theorem gX8_ticks_X8_puts : GoodIn wsX8_ticks (wsV RX8 114 RX8 yX8_puts wsX8_puts) := goodIn_app (goodIn_of _ (by decide +kernel)) ggX8_ticks_X8_puts
set_option maxRecDepth 20000 in
theorem ggX8_ticks_X8_inSwitch : GoodIn wsX8_ticks wsX8_inSwitch := goodIn_r _ [62, 27, 63, 64, 65, 66, 67, 68, 69, 70, 71, 72, 73, 74, 75, 76, 77, 78, 79, 80, 81, 82, 83, 84, 85, 86, 87, 88] (by decide +kernel) (by decide +kernel)
set_option maxRecDepth 20000 in
theorem gX8_ticks_X8_inSwitch : GoodIn wsX8_ticks (wsV RX8 140 RX8 yX8_inSwitch wsX8_inSwitch) := goodIn_app (goodIn_of _ (by decide +kernel)) ggX8_ticks_X8_inSwitch
theorem dX8_ticks_0 : decode cX8_ticks 0 = .ok (.iconst 0, 1) := by decide +kernel
theorem dX8_ticks_1 : decode cX8_ticks 1 = .ok (.istore_n 1, 1) := by decide +kernel
theorem dX8_ticks_2 : decode cX8_ticks 2 = .ok (.aload_n 0, 1) := by decide +kernel
theorem dX8_ticks_3 : decode cX8_ticks 3 = .ok (.invokevirtual 131, 3) := by decide +kernel
theorem dX8_ticks_6 : decode cX8_ticks 6 = .ok (.aload_n 0, 1) := by decide +kernel
theorem dX8_ticks_7 : decode cX8_ticks 7 = .ok (.getfield 7, 3) := by decide +kernel
theorem dX8_ticks_10 : decode cX8_ticks 10 = .ok (.aload_n 0, 1) := by decide +kernel
theorem dX8_ticks_11 : decode cX8_ticks 11 = .ok (.getfield 13, 3) := by decide +kernel
theorem dX8_ticks_14 : decode cX8_ticks 14 = .ok (.imul, 1) := by decide +kernel
theorem dX8_ticks_15 : decode cX8_ticks 15 = .ok (.iconst 5, 1) := by decide +kernel
theorem dX8_ticks_16 : decode cX8_ticks 16 = .ok (.imul, 1) := by decide +kernel
theorem dX8_ticks_17 : decode cX8_ticks 17 = .ok (.istore_n 2, 1) := by decide +kernel
theorem dX8_ticks_18 : decode cX8_ticks 18 = .ok (.iconst 0, 1) := by decide +kernel
theorem dX8_ticks_19 : decode cX8_ticks 19 = .ok (.istore_n 3, 1) := by decide +kernel
theorem dX8_ticks_20 : decode cX8_ticks 20 = .ok (.iload_n 3, 1) := by decide +kernel
theorem dX8_ticks_21 : decode cX8_ticks 21 = .ok (.iload_n 2, 1) := by decide +kernel
theorem dX8_ticks_22 : decode cX8_ticks 22 = .ok (.if_icmp .ge 46, 3) := by decide +kernel
theorem dX8_ticks_25 : decode cX8_ticks 25 = .ok (.aload_n 0, 1) := by decide +kernel
theorem dX8_ticks_26 : decode cX8_ticks 26 = .ok (.getfield 66, 3) := by decide +kernel
theorem dX8_ticks_29 : decode cX8_ticks 29 = .ok (.iload_n 3, 1) := by decide +kernel
theorem dX8_ticks_30 : decode cX8_ticks 30 = .ok (.iconst (-1), 1) := by decide +kernel
theorem dX8_ticks_31 : decode cX8_ticks 31 = .ok (.iastore, 1) := by decide +kernel
theorem dX8_ticks_32 : decode cX8_ticks 32 = .ok (.iload_n 3, 1) := by decide +kernel
theorem dX8_ticks_33 : decode cX8_ticks 33 = .ok (.iconst 5, 1) := by decide +kernel
theorem dX8_ticks_34 : decode cX8_ticks 34 = .ok (.irem, 1) := by decide +kernel
theorem dX8_ticks_35 : decode cX8_ticks 35 = .ok (.iconst 4, 1) := by decide +kernel
theorem dX8_ticks_36 : decode cX8_ticks 36 = .ok (.if_icmp .eq 16, 3) := by decide +kernel
theorem dX8_ticks_39 : decode cX8_ticks 39 = .ok (.aload_n 0, 1) := by decide +kernel
theorem dX8_ticks_40 : decode cX8_ticks 40 = .ok (.iload_n 3, 1) := by decide +kernel
theorem dX8_ticks_41 : decode cX8_ticks 41 = .ok (.iconst 5, 1) := by decide +kernel
theorem dX8_ticks_42 : decode cX8_ticks 42 = .ok (.idiv, 1) := by decide +kernel
theorem dX8_ticks_43 : decode cX8_ticks 43 = .ok (.iload_n 3, 1) := by decide +kernel
theorem dX8_ticks_44 : decode cX8_ticks 44 = .ok (.iconst 5, 1) := by decide +kernel
theorem dX8_ticks_45 : decode cX8_ticks 45 = .ok (.irem, 1) := by decide +kernel
theorem dX8_ticks_46 : decode cX8_ticks 46 = .ok (.invokevirtual 93, 3) := by decide +kernel
theorem dX8_ticks_49 : decode cX8_ticks 49 = .ok (.ifCond .lt 13, 3) := by decide +kernel
theorem dX8_ticks_52 : decode cX8_ticks 52 = .ok (.aload_n 0, 1) := by decide +kernel
theorem dX8_ticks_53 : decode cX8_ticks 53 = .ok (.iload_n 3, 1) := by decide +kernel
theorem dX8_ticks_54 : decode cX8_ticks 54 = .ok (.iconst 5, 1) := by decide +kernel
theorem dX8_ticks_55 : decode cX8_ticks 55 = .ok (.idiv, 1) := by decide +kernel
theorem dX8_ticks_56 : decode cX8_ticks 56 = .ok (.iload_n 3, 1) := by decide +kernel
theorem dX8_ticks_57 : decode cX8_ticks 57 = .ok (.iconst 5, 1) := by decide +kernel
theorem dX8_ticks_58 : decode cX8_ticks 58 = .ok (.irem, 1) := by decide +kernel
theorem dX8_ticks_59 : decode cX8_ticks 59 = .ok (.invokevirtual 134, 3) := by decide +kernel
theorem dX8_ticks_62 : decode cX8_ticks 62 = .ok (.iinc 3 1, 3) := by decide +kernel
theorem dX8_ticks_65 : decode cX8_ticks 65 = .ok (.goto (-45), 3) := by decide +kernel
theorem dX8_ticks_68 : decode cX8_ticks 68 = .ok (.iconst 0, 1) := by decide +kernel
theorem dX8_ticks_69 : decode cX8_ticks 69 = .ok (.istore_n 3, 1) := by decide +kernel
theorem dX8_ticks_70 : decode cX8_ticks 70 = .ok (.iload_n 3, 1) := by decide +kernel
theorem dX8_ticks_71 : decode cX8_ticks 71 = .ok (.iload_n 2, 1) := by decide +kernel
theorem dX8_ticks_72 : decode cX8_ticks 72 = .ok (.if_icmp .ge 28, 3) := by decide +kernel
theorem dX8_ticks_75 : decode cX8_ticks 75 = .ok (.aload_n 0, 1) := by decide +kernel
theorem dX8_ticks_76 : decode cX8_ticks 76 = .ok (.getfield 66, 3) := by decide +kernel
theorem dX8_ticks_79 : decode cX8_ticks 79 = .ok (.iload_n 3, 1) := by decide +kernel
theorem dX8_ticks_80 : decode cX8_ticks 80 = .ok (.iaload, 1) := by decide +kernel
theorem dX8_ticks_81 : decode cX8_ticks 81 = .ok (.ifCond .lt 13, 3) := by decide +kernel
theorem dX8_ticks_84 : decode cX8_ticks 84 = .ok (.aload_n 0, 1) := by decide +kernel
theorem dX8_ticks_85 : decode cX8_ticks 85 = .ok (.iload_n 3, 1) := by decide +kernel
theorem dX8_ticks_86 : decode cX8_ticks 86 = .ok (.iconst 5, 1) := by decide +kernel
theorem dX8_ticks_87 : decode cX8_ticks 87 = .ok (.idiv, 1) := by decide +kernel
theorem dX8_ticks_88 : decode cX8_ticks 88 = .ok (.iload_n 3, 1) := by decide +kernel
theorem dX8_ticks_89 : decode cX8_ticks 89 = .ok (.iconst 5, 1) := by decide +kernel
theorem dX8_ticks_90 : decode cX8_ticks 90 = .ok (.irem, 1) := by decide +kernel
theorem dX8_ticks_91 : decode cX8_ticks 91 = .ok (.invokevirtual 137, 3) := by decide +kernel
theorem dX8_ticks_94 : decode cX8_ticks 94 = .ok (.iinc 3 1, 3) := by decide +kernel
theorem dX8_ticks_97 : decode cX8_ticks 97 = .ok (.goto (-27), 3) := by decide +kernel
theorem dX8_ticks_100 : decode cX8_ticks 100 = .ok (.iconst 0, 1) := by decide +kernel
theorem dX8_ticks_101 : decode cX8_ticks 101 = .ok (.istore_n 3, 1) := by decide +kernel
theorem dX8_ticks_102 : decode cX8_ticks 102 = .ok (.iload_n 3, 1) := by decide +kernel
theorem dX8_ticks_103 : decode cX8_ticks 103 = .ok (.iload_n 2, 1) := by decide +kernel
theorem dX8_ticks_104 : decode cX8_ticks 104 = .ok (.if_icmp .ge 186, 3) := by decide +kernel
theorem dX8_ticks_107 : decode cX8_ticks 107 = .ok (.aload_n 0, 1) := by decide +kernel
theorem dX8_ticks_108 : decode cX8_ticks 108 = .ok (.getfield 66, 3) := by decide +kernel
theorem dX8_ticks_111 : decode cX8_ticks 111 = .ok (.iload_n 3, 1) := by decide +kernel
theorem dX8_ticks_112 : decode cX8_ticks 112 = .ok (.iaload, 1) := by decide +kernel
theorem dX8_ticks_113 : decode cX8_ticks 113 = .ok (.istore 4, 2) := by decide +kernel
theorem dX8_ticks_115 : decode cX8_ticks 115 = .ok (.iload 4, 2) := by decide +kernel
theorem dX8_ticks_117 : decode cX8_ticks 117 = .ok (.ifCond .lt 66, 3) := by decide +kernel
theorem dX8_ticks_120 : decode cX8_ticks 120 = .ok (.iload_n 3, 1) := by decide +kernel
theorem dX8_ticks_121 : decode cX8_ticks 121 = .ok (.iconst 5, 1) := by decide +kernel
theorem dX8_ticks_122 : decode cX8_ticks 122 = .ok (.irem, 1) := by decide +kernel
theorem dX8_ticks_123 : decode cX8_ticks 123 = .ok (.iconst 4, 1) := by decide +kernel
theorem dX8_ticks_124 : decode cX8_ticks 124 = .ok (.if_icmp .ge 59, 3) := by decide +kernel
theorem dX8_ticks_127 : decode cX8_ticks 127 = .ok (.aload_n 0, 1) := by decide +kernel
theorem dX8_ticks_128 : decode cX8_ticks 128 = .ok (.iload_n 3, 1) := by decide +kernel
theorem dX8_ticks_129 : decode cX8_ticks 129 = .ok (.iconst 5, 1) := by decide +kernel
theorem dX8_ticks_130 : decode cX8_ticks 130 = .ok (.idiv, 1) := by decide +kernel
theorem dX8_ticks_131 : decode cX8_ticks 131 = .ok (.iload_n 3, 1) := by decide +kernel
theorem dX8_ticks_132 : decode cX8_ticks 132 = .ok (.iconst 5, 1) := by decide +kernel
theorem dX8_ticks_133 : decode cX8_ticks 133 = .ok (.irem, 1) := by decide +kernel
theorem dX8_ticks_134 : decode cX8_ticks 134 = .ok (.invokevirtual 93, 3) := by decide +kernel
theorem dX8_ticks_137 : decode cX8_ticks 137 = .ok (.istore 5, 2) := by decide +kernel
theorem dX8_ticks_139 : decode cX8_ticks 139 = .ok (.aload_n 0, 1) := by decide +kernel
theorem dX8_ticks_140 : decode cX8_ticks 140 = .ok (.iload 5, 2) := by decide +kernel
theorem dX8_ticks_142 : decode cX8_ticks 142 = .ok (.iload_n 3, 1) := by decide +kernel
theorem dX8_ticks_143 : decode cX8_ticks 143 = .ok (.iconst 5, 1) := by decide +kernel
theorem dX8_ticks_144 : decode cX8_ticks 144 = .ok (.irem, 1) := by decide +kernel
theorem dX8_ticks_145 : decode cX8_ticks 145 = .ok (.aload_n 0, 1) := by decide +kernel
theorem dX8_ticks_146 : decode cX8_ticks 146 = .ok (.getfield 51, 3) := by decide +kernel
theorem dX8_ticks_149 : decode cX8_ticks 149 = .ok (.iload 4, 2) := by decide +kernel
theorem dX8_ticks_151 : decode cX8_ticks 151 = .ok (.iaload, 1) := by decide +kernel
theorem dX8_ticks_152 : decode cX8_ticks 152 = .ok (.invokestatic 110, 3) := by decide +kernel
theorem dX8_ticks_155 : decode cX8_ticks 155 = .ok (.iload 4, 2) := by decide +kernel
theorem dX8_ticks_157 : decode cX8_ticks 157 = .ok (.invokevirtual 114, 3) := by decide +kernel
theorem dX8_ticks_160 : decode cX8_ticks 160 = .ok (.aload_n 0, 1) := by decide +kernel
theorem dX8_ticks_161 : decode cX8_ticks 161 = .ok (.getfield 57, 3) := by decide +kernel
theorem dX8_ticks_164 : decode cX8_ticks 164 = .ok (.iload 4, 2) := by decide +kernel
theorem dX8_ticks_166 : decode cX8_ticks 166 = .ok (.iload 5, 2) := by decide +kernel
theorem dX8_ticks_168 : decode cX8_ticks 168 = .ok (.iastore, 1) := by decide +kernel
theorem dX8_ticks_169 : decode cX8_ticks 169 = .ok (.aload_n 0, 1) := by decide +kernel
theorem dX8_ticks_170 : decode cX8_ticks 170 = .ok (.getfield 60, 3) := by decide +kernel
theorem dX8_ticks_173 : decode cX8_ticks 173 = .ok (.iload 4, 2) := by decide +kernel
theorem dX8_ticks_175 : decode cX8_ticks 175 = .ok (.dup2, 1) := by decide +kernel
theorem dX8_ticks_176 : decode cX8_ticks 176 = .ok (.iaload, 1) := by decide +kernel
theorem dX8_ticks_177 : decode cX8_ticks 177 = .ok (.iconst 1, 1) := by decide +kernel
theorem dX8_ticks_178 : decode cX8_ticks 178 = .ok (.iadd, 1) := by decide +kernel
theorem dX8_ticks_179 : decode cX8_ticks 179 = .ok (.iastore, 1) := by decide +kernel
theorem dX8_ticks_180 : decode cX8_ticks 180 = .ok (.goto 104, 3) := by decide +kernel
theorem dX8_ticks_183 : decode cX8_ticks 183 = .ok (.iload 4, 2) := by decide +kernel
theorem dX8_ticks_185 : decode cX8_ticks 185 = .ok (.ifCond .lt 99, 3) := by decide +kernel
theorem dX8_ticks_188 : decode cX8_ticks 188 = .ok (.aload_n 0, 1) := by decide +kernel
theorem dX8_ticks_189 : decode cX8_ticks 189 = .ok (.getfield 57, 3) := by decide +kernel
theorem dX8_ticks_192 : decode cX8_ticks 192 = .ok (.iload 4, 2) := by decide +kernel
theorem dX8_ticks_194 : decode cX8_ticks 194 = .ok (.iconst (-1), 1) := by decide +kernel
theorem dX8_ticks_195 : decode cX8_ticks 195 = .ok (.iastore, 1) := by decide +kernel
theorem dX8_ticks_196 : decode cX8_ticks 196 = .ok (.aload_n 0, 1) := by decide +kernel
theorem dX8_ticks_197 : decode cX8_ticks 197 = .ok (.getfield 48, 3) := by decide +kernel
theorem dX8_ticks_200 : decode cX8_ticks 200 = .ok (.iload 4, 2) := by decide +kernel
theorem dX8_ticks_202 : decode cX8_ticks 202 = .ok (.iaload, 1) := by decide +kernel
theorem dX8_ticks_203 : decode cX8_ticks 203 = .ok (.istore 5, 2) := by decide +kernel
theorem dX8_ticks_205 : decode cX8_ticks 205 = .ok (.iconst 2, 1) := by decide +kernel
theorem dX8_ticks_206 : decode cX8_ticks 206 = .ok (.aload_n 0, 1) := by decide +kernel
theorem dX8_ticks_207 : decode cX8_ticks 207 = .ok (.getfield 35, 3) := by decide +kernel
theorem dX8_ticks_210 : decode cX8_ticks 210 = .ok (.iload 5, 2) := by decide +kernel
theorem dX8_ticks_212 : decode cX8_ticks 212 = .ok (.iaload, 1) := by decide +kernel
theorem dX8_ticks_213 : decode cX8_ticks 213 = .ok (.imul, 1) := by decide +kernel
theorem dX8_ticks_214 : decode cX8_ticks 214 = .ok (.bipush 16, 2) := by decide +kernel
theorem dX8_ticks_216 : decode cX8_ticks 216 = .ok (.if_icmp .ge 15, 3) := by decide +kernel
theorem dX8_ticks_219 : decode cX8_ticks 219 = .ok (.iconst 2, 1) := by decide +kernel
theorem dX8_ticks_220 : decode cX8_ticks 220 = .ok (.aload_n 0, 1) := by decide +kernel
theorem dX8_ticks_221 : decode cX8_ticks 221 = .ok (.getfield 35, 3) := by decide +kernel
theorem dX8_ticks_224 : decode cX8_ticks 224 = .ok (.iload 5, 2) := by decide +kernel
theorem dX8_ticks_226 : decode cX8_ticks 226 = .ok (.iaload, 1) := by decide +kernel
theorem dX8_ticks_227 : decode cX8_ticks 227 = .ok (.imul, 1) := by decide +kernel
theorem dX8_ticks_228 : decode cX8_ticks 228 = .ok (.goto 5, 3) := by decide +kernel
theorem dX8_ticks_231 : decode cX8_ticks 231 = .ok (.bipush 16, 2) := by decide +kernel
theorem dX8_ticks_233 : decode cX8_ticks 233 = .ok (.istore 6, 2) := by decide +kernel
theorem dX8_ticks_235 : decode cX8_ticks 235 = .ok (.aload_n 0, 1) := by decide +kernel
theorem dX8_ticks_236 : decode cX8_ticks 236 = .ok (.getfield 35, 3) := by decide +kernel
theorem dX8_ticks_239 : decode cX8_ticks 239 = .ok (.iload 5, 2) := by decide +kernel
theorem dX8_ticks_241 : decode cX8_ticks 241 = .ok (.aload_n 0, 1) := by decide +kernel
theorem dX8_ticks_242 : decode cX8_ticks 242 = .ok (.getfield 63, 3) := by decide +kernel
theorem dX8_ticks_245 : decode cX8_ticks 245 = .ok (.iload 4, 2) := by decide +kernel
theorem dX8_ticks_247 : decode cX8_ticks 247 = .ok (.baload, 1) := by decide +kernel
theorem dX8_ticks_248 : decode cX8_ticks 248 = .ok (.ifCond .eq 8, 3) := by decide +kernel
theorem dX8_ticks_251 : decode cX8_ticks 251 = .ok (.iload 6, 2) := by decide +kernel
theorem dX8_ticks_253 : decode cX8_ticks 253 = .ok (.goto 27, 3) := by decide +kernel
theorem dX8_ticks_256 : decode cX8_ticks 256 = .ok (.aload_n 0, 1) := by decide +kernel
theorem dX8_ticks_257 : decode cX8_ticks 257 = .ok (.getfield 35, 3) := by decide +kernel
theorem dX8_ticks_260 : decode cX8_ticks 260 = .ok (.iload 5, 2) := by decide +kernel
theorem dX8_ticks_262 : decode cX8_ticks 262 = .ok (.iaload, 1) := by decide +kernel
theorem dX8_ticks_263 : decode cX8_ticks 263 = .ok (.iconst 1, 1) := by decide +kernel
theorem dX8_ticks_264 : decode cX8_ticks 264 = .ok (.if_icmp .le 15, 3) := by decide +kernel
theorem dX8_ticks_267 : decode cX8_ticks 267 = .ok (.aload_n 0, 1) := by decide +kernel
theorem dX8_ticks_268 : decode cX8_ticks 268 = .ok (.getfield 35, 3) := by decide +kernel
theorem dX8_ticks_271 : decode cX8_ticks 271 = .ok (.iload 5, 2) := by decide +kernel
theorem dX8_ticks_273 : decode cX8_ticks 273 = .ok (.iaload, 1) := by decide +kernel
theorem dX8_ticks_274 : decode cX8_ticks 274 = .ok (.iconst 1, 1) := by decide +kernel
theorem dX8_ticks_275 : decode cX8_ticks 275 = .ok (.isub, 1) := by decide +kernel
theorem dX8_ticks_276 : decode cX8_ticks 276 = .ok (.goto 4, 3) := by decide +kernel
theorem dX8_ticks_279 : decode cX8_ticks 279 = .ok (.iconst 1, 1) := by decide +kernel
theorem dX8_ticks_280 : decode cX8_ticks 280 = .ok (.iastore, 1) := by decide +kernel
theorem dX8_ticks_281 : decode cX8_ticks 281 = .ok (.iinc 1 1, 3) := by decide +kernel
theorem dX8_ticks_284 : decode cX8_ticks 284 = .ok (.iinc 3 1, 3) := by decide +kernel
theorem dX8_ticks_287 : decode cX8_ticks 287 = .ok (.goto (-185), 3) := by decide +kernel
theorem dX8_ticks_290 : decode cX8_ticks 290 = .ok (.iconst 0, 1) := by decide +kernel
theorem dX8_ticks_291 : decode cX8_ticks 291 = .ok (.istore_n 3, 1) := by decide +kernel
theorem dX8_ticks_292 : decode cX8_ticks 292 = .ok (.iload_n 3, 1) := by decide +kernel
theorem dX8_ticks_293 : decode cX8_ticks 293 = .ok (.iload_n 2, 1) := by decide +kernel
theorem dX8_ticks_294 : decode cX8_ticks 294 = .ok (.if_icmp .ge 55, 3) := by decide +kernel
theorem dX8_ticks_297 : decode cX8_ticks 297 = .ok (.aload_n 0, 1) := by decide +kernel
theorem dX8_ticks_298 : decode cX8_ticks 298 = .ok (.getfield 66, 3) := by decide +kernel
theorem dX8_ticks_301 : decode cX8_ticks 301 = .ok (.iload_n 3, 1) := by decide +kernel
theorem dX8_ticks_302 : decode cX8_ticks 302 = .ok (.iaload, 1) := by decide +kernel
theorem dX8_ticks_303 : decode cX8_ticks 303 = .ok (.istore 4, 2) := by decide +kernel
theorem dX8_ticks_305 : decode cX8_ticks 305 = .ok (.iload 4, 2) := by decide +kernel
theorem dX8_ticks_307 : decode cX8_ticks 307 = .ok (.ifCond .lt 36, 3) := by decide +kernel
theorem dX8_ticks_310 : decode cX8_ticks 310 = .ok (.aload_n 0, 1) := by decide +kernel
theorem dX8_ticks_311 : decode cX8_ticks 311 = .ok (.getfield 57, 3) := by decide +kernel
theorem dX8_ticks_314 : decode cX8_ticks 314 = .ok (.iload 4, 2) := by decide +kernel
theorem dX8_ticks_316 : decode cX8_ticks 316 = .ok (.iaload, 1) := by decide +kernel
theorem dX8_ticks_317 : decode cX8_ticks 317 = .ok (.ifCond .lt 26, 3) := by decide +kernel
theorem dX8_ticks_320 : decode cX8_ticks 320 = .ok (.aload_n 0, 1) := by decide +kernel
theorem dX8_ticks_321 : decode cX8_ticks 321 = .ok (.aload_n 0, 1) := by decide +kernel
theorem dX8_ticks_322 : decode cX8_ticks 322 = .ok (.getfield 57, 3) := by decide +kernel
theorem dX8_ticks_325 : decode cX8_ticks 325 = .ok (.iload 4, 2) := by decide +kernel
theorem dX8_ticks_327 : decode cX8_ticks 327 = .ok (.iaload, 1) := by decide +kernel
theorem dX8_ticks_328 : decode cX8_ticks 328 = .ok (.invokevirtual 140, 3) := by decide +kernel
theorem dX8_ticks_331 : decode cX8_ticks 331 = .ok (.iconst 4, 1) := by decide +kernel
theorem dX8_ticks_332 : decode cX8_ticks 332 = .ok (.if_icmp .lt 11, 3) := by decide +kernel
theorem dX8_ticks_335 : decode cX8_ticks 335 = .ok (.aload_n 0, 1) := by decide +kernel
theorem dX8_ticks_336 : decode cX8_ticks 336 = .ok (.getfield 63, 3) := by decide +kernel
theorem dX8_ticks_339 : decode cX8_ticks 339 = .ok (.iload 4, 2) := by decide +kernel
theorem dX8_ticks_341 : decode cX8_ticks 341 = .ok (.iconst 1, 1) := by decide +kernel
theorem dX8_ticks_342 : decode cX8_ticks 342 = .ok (.bastore, 1) := by decide +kernel
theorem dX8_ticks_343 : decode cX8_ticks 343 = .ok (.iinc 3 1, 3) := by decide +kernel
theorem dX8_ticks_346 : decode cX8_ticks 346 = .ok (.goto (-54), 3) := by decide +kernel
theorem dX8_ticks_349 : decode cX8_ticks 349 = .ok (.aload_n 0, 1) := by decide +kernel
theorem dX8_ticks_350 : decode cX8_ticks 350 = .ok (.dup, 1) := by decide +kernel
theorem dX8_ticks_351 : decode cX8_ticks 351 = .ok (.getfield 100, 3) := by decide +kernel
theorem dX8_ticks_354 : decode cX8_ticks 354 = .ok (.iconst 1, 1) := by decide +kernel
theorem dX8_ticks_355 : decode cX8_ticks 355 = .ok (.iadd, 1) := by decide +kernel
theorem dX8_ticks_356 : decode cX8_ticks 356 = .ok (.putfield 100, 3) := by decide +kernel
theorem dX8_ticks_359 : decode cX8_ticks 359 = .ok (.iload_n 1, 1) := by decide +kernel
theorem dX8_ticks_360 : decode cX8_ticks 360 = .ok (.ireturn, 1) := by decide +kernel
set_option maxRecDepth 20000 in
theorem ggX8_run_X8_isWithin : GoodIn wsX8_run wsX8_isWithin := goodIn_r _ [5] (by decide +kernel) (by decide +kernel)
set_option maxRecDepth 20000 in
theorem gX8_run_X8_isWithin : GoodIn wsX8_run (va_wsS RX8 89 yX8_isWithin wsX8_isWithin) := goodIn_app (goodIn_of _ (by decide +kernel)) ggX8_run_X8_isWithin
set_option maxRecDepth 20000 in
theorem ggX8_run_X8_goes : GoodIn wsX8_run wsX8_goes := goodIn_r _ [9, 10, 76, 77, 78, 79, 80, 81, 82, 83, 84, 85, 86, 87, 88, 89, 90, 91, 92, 93, 94, 95, 96, 97, 98, 99, 100, 101] (by decide +kernel) (by decide +kernel)
set_option maxRecDepth 20000 in
theorem gX8_run_X8_goes : GoodIn wsX8_run (wsV RX8 106 RX8 yX8_goes wsX8_goes) := goodIn_app (goodIn_of _ (by decide +kernel)) ggX8_run_X8_goes
set_option maxRecDepth 20000 in
theorem ggX8_run_X8_ticks : GoodIn wsX8_run wsX8_ticks := goodIn_r _ [14, 15, 16, 17, 18, 19, 20, 21, 22, 23, 24, 25, 26, 27, 4, 28, 29, 30, 31, 32, 33, 34, 35, 36, 37, 38, 39, 40, 41, 42, 43, 44, 45, 46, 47, 48, 49, 50, 51, 52, 53, 54, 55, 56, 57, 58, 59, 60, 61, 62, 63, 64, 65, 66, 67, 68, 69, 70, 71, 72, 73, 74, 75, 76, 77, 78, 79, 80, 81, 82, 83, 84, 85, 86, 87, 88, 89, 90, 91, 92, 93, 94, 95, 96, 97, 98, 99, 100, 101] (by decide +kernel) (by decide +kernel)
set_option maxRecDepth 20000 in
theorem gX8_run_X8_ticks : GoodIn wsX8_run (wsV RX8 143 RX8 yX8_ticks wsX8_ticks) := goodIn_app (goodIn_of _ (by decide +kernel)) ggX8_run_X8_ticks
theorem dX8_run_0 : decode cX8_run 0 = .ok (.aload_n 0, 1) := by decide +kernel
theorem dX8_run_1 : decode cX8_run 1 = .ok (.iload_n 1, 1) := by decide +kernel
theorem dX8_run_2 : decode cX8_run 2 = .ok (.iconst 1, 1) := by decide +kernel
theorem dX8_run_3 : decode cX8_run 3 = .ok (.bipush 50, 2) := by decide +kernel
theorem dX8_run_5 : decode cX8_run 5 = .ok (.invokestatic 89, 3) := by decide +kernel
theorem dX8_run_8 : decode cX8_run 8 = .ok (.iconst 1, 1) := by decide +kernel
theorem dX8_run_9 : decode cX8_run 9 = .ok (.iconst 1, 1) := by decide +kernel
theorem dX8_run_10 : decode cX8_run 10 = .ok (.invokevirtual 106, 3) := by decide +kernel
theorem dX8_run_13 : decode cX8_run 13 = .ok (.ifCond .ne 5, 3) := by decide +kernel
theorem dX8_run_16 : decode cX8_run 16 = .ok (.iconst 0, 1) := by decide +kernel
theorem dX8_run_17 : decode cX8_run 17 = .ok (.ireturn, 1) := by decide +kernel
theorem dX8_run_18 : decode cX8_run 18 = .ok (.iconst 0, 1) := by decide +kernel
theorem dX8_run_19 : decode cX8_run 19 = .ok (.istore_n 2, 1) := by decide +kernel
theorem dX8_run_20 : decode cX8_run 20 = .ok (.iconst 0, 1) := by decide +kernel
theorem dX8_run_21 : decode cX8_run 21 = .ok (.istore_n 3, 1) := by decide +kernel
theorem dX8_run_22 : decode cX8_run 22 = .ok (.iload_n 3, 1) := by decide +kernel
theorem dX8_run_23 : decode cX8_run 23 = .ok (.iload_n 1, 1) := by decide +kernel
theorem dX8_run_24 : decode cX8_run 24 = .ok (.if_icmp .ge 16, 3) := by decide +kernel
theorem dX8_run_27 : decode cX8_run 27 = .ok (.iload_n 2, 1) := by decide +kernel
theorem dX8_run_28 : decode cX8_run 28 = .ok (.aload_n 0, 1) := by decide +kernel
theorem dX8_run_29 : decode cX8_run 29 = .ok (.invokevirtual 143, 3) := by decide +kernel
theorem dX8_run_32 : decode cX8_run 32 = .ok (.iadd, 1) := by decide +kernel
theorem dX8_run_33 : decode cX8_run 33 = .ok (.istore_n 2, 1) := by decide +kernel
theorem dX8_run_34 : decode cX8_run 34 = .ok (.iinc 3 1, 3) := by decide +kernel
theorem dX8_run_37 : decode cX8_run 37 = .ok (.goto (-15), 3) := by decide +kernel
theorem dX8_run_40 : decode cX8_run 40 = .ok (.aload_n 0, 1) := by decide +kernel
theorem dX8_run_41 : decode cX8_run 41 = .ok (.dup, 1) := by decide +kernel
theorem dX8_run_42 : decode cX8_run 42 = .ok (.getfield 103, 3) := by decide +kernel
theorem dX8_run_45 : decode cX8_run 45 = .ok (.iload_n 2, 1) := by decide +kernel
theorem dX8_run_46 : decode cX8_run 46 = .ok (.iadd, 1) := by decide +kernel
theorem dX8_run_47 : decode cX8_run 47 = .ok (.putfield 103, 3) := by decide +kernel
theorem dX8_run_50 : decode cX8_run 50 = .ok (.iload_n 2, 1) := by decide +kernel
theorem dX8_run_51 : decode cX8_run 51 = .ok (.ireturn, 1) := by decide +kernel
set_option maxRecDepth 20000 in
theorem ggX8_pause_X8_isSwitch : GoodIn wsX8_pause wsX8_isSwitch := goodIn_r _ [6, 7, 8, 14, 15, 16, 17, 18, 19, 20, 21, 22, 23, 24, 25, 26, 27, 28, 29, 30, 31, 32, 33, 34, 35, 36, 37, 38, 39] (by decide +kernel) (by decide +kernel)
set_option maxRecDepth 20000 in
theorem gX8_pause_X8_isSwitch : GoodIn wsX8_pause (wsV RX8 85 RX8 yX8_isSwitch wsX8_isSwitch) := goodIn_app (goodIn_of _ (by decide +kernel)) ggX8_pause_X8_isSwitch
set_option maxRecDepth 20000 in
theorem ggX8_pause_X8_goes : GoodIn wsX8_pause wsX8_goes := goodIn_r _ [12, 13, 14, 15, 16, 17, 18, 19, 20, 21, 22, 23, 24, 25, 26, 27, 28, 29, 30, 31, 32, 33, 34, 35, 36, 37, 38, 39] (by decide +kernel) (by decide +kernel)
set_option maxRecDepth 20000 in
theorem gX8_pause_X8_goes : GoodIn wsX8_pause (wsV RX8 106 RX8 yX8_goes wsX8_goes) := goodIn_app (goodIn_of _ (by decide +kernel)) ggX8_pause_X8_goes
theorem dX8_pause_0 : decode cX8_pause 0 = .ok (.aload_n 0, 1) := by decide +kernel
theorem dX8_pause_1 : decode cX8_pause 1 = .ok (.aload_n 0, 1) := by decide +kernel
theorem dX8_pause_2 : decode cX8_pause 2 = .ok (.iload_n 1, 1) := by decide +kernel
theorem dX8_pause_3 : decode cX8_pause 3 = .ok (.invokevirtual 85, 3) := by decide +kernel
theorem dX8_pause_6 : decode cX8_pause 6 = .ok (.iconst 1, 1) := by decide +kernel
theorem dX8_pause_7 : decode cX8_pause 7 = .ok (.iconst 1, 1) := by decide +kernel
theorem dX8_pause_8 : decode cX8_pause 8 = .ok (.invokevirtual 106, 3) := by decide +kernel
theorem dX8_pause_11 : decode cX8_pause 11 = .ok (.ifCond .ne 5, 3) := by decide +kernel
theorem dX8_pause_14 : decode cX8_pause 14 = .ok (.iconst 0, 1) := by decide +kernel
theorem dX8_pause_15 : decode cX8_pause 15 = .ok (.ireturn, 1) := by decide +kernel
theorem dX8_pause_16 : decode cX8_pause 16 = .ok (.aload_n 0, 1) := by decide +kernel
theorem dX8_pause_17 : decode cX8_pause 17 = .ok (.getfield 41, 3) := by decide +kernel
theorem dX8_pause_20 : decode cX8_pause 20 = .ok (.iload_n 1, 1) := by decide +kernel
theorem dX8_pause_21 : decode cX8_pause 21 = .ok (.baload, 1) := by decide +kernel
theorem dX8_pause_22 : decode cX8_pause 22 = .ok (.istore_n 3, 1) := by decide +kernel
theorem dX8_pause_23 : decode cX8_pause 23 = .ok (.aload_n 0, 1) := by decide +kernel
theorem dX8_pause_24 : decode cX8_pause 24 = .ok (.getfield 41, 3) := by decide +kernel
theorem dX8_pause_27 : decode cX8_pause 27 = .ok (.iload_n 1, 1) := by decide +kernel
theorem dX8_pause_28 : decode cX8_pause 28 = .ok (.iload_n 2, 1) := by decide +kernel
theorem dX8_pause_29 : decode cX8_pause 29 = .ok (.bastore, 1) := by decide +kernel
theorem dX8_pause_30 : decode cX8_pause 30 = .ok (.iload_n 3, 1) := by decide +kernel
theorem dX8_pause_31 : decode cX8_pause 31 = .ok (.ireturn, 1) := by decide +kernel
set_option maxRecDepth 20000 in
theorem ggX8_lose_X8_isLink : GoodIn wsX8_lose wsX8_isLink := goodIn_r _ [6, 7, 8, 9, 5, 10, 11, 12, 13, 14, 15, 16, 17, 18, 19, 28, 29, 30, 31, 32, 33, 34, 35, 36, 37, 38, 39, 40, 41, 42, 43, 44, 45, 46, 47, 48, 49, 50, 51, 52, 53] (by decide +kernel) (by decide +kernel)
set_option maxRecDepth 20000 in
theorem gX8_lose_X8_isLink : GoodIn wsX8_lose (wsV RX8 147 RX8 yX8_isLink wsX8_isLink) := goodIn_app (goodIn_of _ (by decide +kernel)) ggX8_lose_X8_isLink
set_option maxRecDepth 20000 in
theorem ggX8_lose_X8_isWithin : GoodIn wsX8_lose wsX8_isWithin := goodIn_r _ [15] (by decide +kernel) (by decide +kernel)
set_option maxRecDepth 20000 in
theorem gX8_lose_X8_isWithin : GoodIn wsX8_lose (va_wsS RX8 89 yX8_isWithin wsX8_isWithin) := goodIn_app (goodIn_of _ (by decide +kernel)) ggX8_lose_X8_isWithin
set_option maxRecDepth 20000 in
theorem ggX8_lose_X8_linkOf : GoodIn wsX8_lose wsX8_linkOf := goodIn_r _ [22] (by decide +kernel) (by decide +kernel)
set_option maxRecDepth 20000 in
theorem gX8_lose_X8_linkOf : GoodIn wsX8_lose (va_wsS RX8 118 yX8_linkOf wsX8_linkOf) := goodIn_app (goodIn_of _ (by decide +kernel)) ggX8_lose_X8_linkOf
set_option maxRecDepth 20000 in
theorem ggX8_lose_X8_goes : GoodIn wsX8_lose wsX8_goes := goodIn_r _ [26, 27, 28, 29, 30, 31, 32, 33, 34, 35, 36, 37, 38, 39, 40, 41, 42, 43, 44, 45, 46, 47, 48, 49, 50, 51, 52, 53] (by decide +kernel) (by decide +kernel)
set_option maxRecDepth 20000 in
theorem gX8_lose_X8_goes : GoodIn wsX8_lose (wsV RX8 106 RX8 yX8_goes wsX8_goes) := goodIn_app (goodIn_of _ (by decide +kernel)) ggX8_lose_X8_goes
theorem dX8_lose_0 : decode cX8_lose 0 = .ok (.aload_n 0, 1) := by decide +kernel
theorem dX8_lose_1 : decode cX8_lose 1 = .ok (.iload_n 1, 1) := by decide +kernel
theorem dX8_lose_2 : decode cX8_lose 2 = .ok (.iload_n 2, 1) := by decide +kernel
theorem dX8_lose_3 : decode cX8_lose 3 = .ok (.invokevirtual 147, 3) := by decide +kernel
theorem dX8_lose_6 : decode cX8_lose 6 = .ok (.istore 4, 2) := by decide +kernel
