set_option maxRecDepth 20000 in
theorem ggX0_init_X5_init : GoodIn wsX0_init wsX5_init := goodIn_r _ [11, 12, 2, 3, 13, 14, 15] (by decide +kernel) (by decide +kernel)
set_option maxRecDepth 20000 in
theorem gX0_init_X5_init : GoodIn wsX0_init (wsX5_init) := ggX0_init_X5_init
theorem dX0_init_0 : decode cX0_init 0 = .ok (.aload_n 0, 1) := by decide +kernel
theorem dX0_init_1 : decode cX0_init 1 = .ok (.invokespecial 3, 3) := by decide +kernel
theorem dX0_init_4 : decode cX0_init 4 = .ok (.aload_n 0, 1) := by decide +kernel
theorem dX0_init_5 : decode cX0_init 5 = .ok (.new 9, 3) := by decide +kernel
theorem dX0_init_8 : decode cX0_init 8 = .ok (.dup, 1) := by decide +kernel
theorem dX0_init_9 : decode cX0_init 9 = .ok (.sipush 480, 3) := by decide +kernel
theorem dX0_init_12 : decode cX0_init 12 = .ok (.invokespecial 11, 3) := by decide +kernel
theorem dX0_init_15 : decode cX0_init 15 = .ok (.putfield 14, 3) := by decide +kernel
theorem dX0_init_18 : decode cX0_init 18 = .ok (.aload_n 0, 1) := by decide +kernel
theorem dX0_init_19 : decode cX0_init 19 = .ok (.new 9, 3) := by decide +kernel
theorem dX0_init_22 : decode cX0_init 22 = .ok (.dup, 1) := by decide +kernel
theorem dX0_init_23 : decode cX0_init 23 = .ok (.sipush 160, 3) := by decide +kernel
theorem dX0_init_26 : decode cX0_init 26 = .ok (.invokespecial 11, 3) := by decide +kernel
theorem dX0_init_29 : decode cX0_init 29 = .ok (.putfield 20, 3) := by decide +kernel
theorem dX0_init_32 : decode cX0_init 32 = .ok (.return_, 1) := by decide +kernel
set_option maxRecDepth 20000 in
theorem ggX0_clear_X5_fill : GoodIn wsX0_clear wsX5_fill := goodIn_r _ [7, 8, 12] (by decide +kernel) (by decide +kernel)
set_option maxRecDepth 20000 in
theorem gX0_clear_X5_fill : GoodIn wsX0_clear (wsV RX0 27 RX5 yX5_fill wsX5_fill) := goodIn_app (goodIn_of _ (by decide +kernel)) ggX0_clear_X5_fill
theorem dX0_clear_0 : decode cX0_clear 0 = .ok (.aload_n 0, 1) := by decide +kernel
theorem dX0_clear_1 : decode cX0_clear 1 = .ok (.iload_n 1, 1) := by decide +kernel
theorem dX0_clear_2 : decode cX0_clear 2 = .ok (.putfield 23, 3) := by decide +kernel
theorem dX0_clear_5 : decode cX0_clear 5 = .ok (.aload_n 0, 1) := by decide +kernel
theorem dX0_clear_6 : decode cX0_clear 6 = .ok (.getfield 20, 3) := by decide +kernel
theorem dX0_clear_9 : decode cX0_clear 9 = .ok (.iconst 0, 1) := by decide +kernel
theorem dX0_clear_10 : decode cX0_clear 10 = .ok (.invokevirtual 27, 3) := by decide +kernel
theorem dX0_clear_13 : decode cX0_clear 13 = .ok (.return_, 1) := by decide +kernel
set_option maxRecDepth 20000 in
theorem ggX0_size_X5_at : GoodIn wsX0_size wsX5_at := goodIn_r _ [6, 7, 11] (by decide +kernel) (by decide +kernel)
set_option maxRecDepth 20000 in
theorem gX0_size_X5_at : GoodIn wsX0_size (wsV RX0 30 RX5 yX5_at wsX5_at) := goodIn_app (goodIn_of _ (by decide +kernel)) ggX0_size_X5_at
theorem dX0_size_0 : decode cX0_size 0 = .ok (.aload_n 0, 1) := by decide +kernel
theorem dX0_size_1 : decode cX0_size 1 = .ok (.getfield 20, 3) := by decide +kernel
theorem dX0_size_4 : decode cX0_size 4 = .ok (.iload_n 1, 1) := by decide +kernel
theorem dX0_size_5 : decode cX0_size 5 = .ok (.invokevirtual 30, 3) := by decide +kernel
theorem dX0_size_8 : decode cX0_size 8 = .ok (.ireturn, 1) := by decide +kernel
set_option maxRecDepth 20000 in
theorem ggX0_free_X5_at : GoodIn wsX0_free wsX5_at := goodIn_r _ [7, 8, 12] (by decide +kernel) (by decide +kernel)
set_option maxRecDepth 20000 in
theorem gX0_free_X5_at : GoodIn wsX0_free (wsV RX0 30 RX5 yX5_at wsX5_at) := goodIn_app (goodIn_of _ (by decide +kernel)) ggX0_free_X5_at
theorem dX0_free_0 : decode cX0_free 0 = .ok (.aload_n 0, 1) := by decide +kernel
theorem dX0_free_1 : decode cX0_free 1 = .ok (.getfield 23, 3) := by decide +kernel
theorem dX0_free_4 : decode cX0_free 4 = .ok (.aload_n 0, 1) := by decide +kernel
theorem dX0_free_5 : decode cX0_free 5 = .ok (.getfield 20, 3) := by decide +kernel
theorem dX0_free_8 : decode cX0_free 8 = .ok (.iload_n 1, 1) := by decide +kernel
theorem dX0_free_9 : decode cX0_free 9 = .ok (.invokevirtual 30, 3) := by decide +kernel
theorem dX0_free_12 : decode cX0_free 12 = .ok (.isub, 1) := by decide +kernel
theorem dX0_free_13 : decode cX0_free 13 = .ok (.ireturn, 1) := by decide +kernel
set_option maxRecDepth 20000 in
theorem ggX0_isFull_X5_at : GoodIn wsX0_isFull wsX5_at := goodIn_r _ [7, 8, 12] (by decide +kernel) (by decide +kernel)
set_option maxRecDepth 20000 in
theorem gX0_isFull_X5_at : GoodIn wsX0_isFull (wsV RX0 30 RX5 yX5_at wsX5_at) := goodIn_app (goodIn_of _ (by decide +kernel)) ggX0_isFull_X5_at
theorem dX0_isFull_0 : decode cX0_isFull 0 = .ok (.aload_n 0, 1) := by decide +kernel
theorem dX0_isFull_1 : decode cX0_isFull 1 = .ok (.getfield 20, 3) := by decide +kernel
theorem dX0_isFull_4 : decode cX0_isFull 4 = .ok (.iload_n 1, 1) := by decide +kernel
theorem dX0_isFull_5 : decode cX0_isFull 5 = .ok (.invokevirtual 30, 3) := by decide +kernel
theorem dX0_isFull_8 : decode cX0_isFull 8 = .ok (.aload_n 0, 1) := by decide +kernel
theorem dX0_isFull_9 : decode cX0_isFull 9 = .ok (.getfield 23, 3) := by decide +kernel
theorem dX0_isFull_12 : decode cX0_isFull 12 = .ok (.if_icmp .lt 7, 3) := by decide +kernel
theorem dX0_isFull_15 : decode cX0_isFull 15 = .ok (.iconst 1, 1) := by decide +kernel
theorem dX0_isFull_16 : decode cX0_isFull 16 = .ok (.goto 4, 3) := by decide +kernel
theorem dX0_isFull_19 : decode cX0_isFull 19 = .ok (.iconst 0, 1) := by decide +kernel
theorem dX0_isFull_20 : decode cX0_isFull 20 = .ok (.ireturn, 1) := by decide +kernel
set_option maxRecDepth 20000 in
theorem ggX0_first_X5_at : GoodIn wsX0_first wsX5_at := goodIn_r _ [7, 8, 12] (by decide +kernel) (by decide +kernel)
set_option maxRecDepth 20000 in
theorem gX0_first_X5_at : GoodIn wsX0_first (wsV RX0 30 RX5 yX5_at wsX5_at) := goodIn_app (goodIn_of _ (by decide +kernel)) ggX0_first_X5_at
theorem dX0_first_0 : decode cX0_first 0 = .ok (.aload_n 0, 1) := by decide +kernel
theorem dX0_first_1 : decode cX0_first 1 = .ok (.getfield 20, 3) := by decide +kernel
theorem dX0_first_4 : decode cX0_first 4 = .ok (.iload_n 1, 1) := by decide +kernel
theorem dX0_first_5 : decode cX0_first 5 = .ok (.invokevirtual 30, 3) := by decide +kernel
theorem dX0_first_8 : decode cX0_first 8 = .ok (.ifCond .le 16, 3) := by decide +kernel
theorem dX0_first_11 : decode cX0_first 11 = .ok (.aload_n 0, 1) := by decide +kernel
theorem dX0_first_12 : decode cX0_first 12 = .ok (.getfield 14, 3) := by decide +kernel
theorem dX0_first_15 : decode cX0_first 15 = .ok (.iload_n 1, 1) := by decide +kernel
theorem dX0_first_16 : decode cX0_first 16 = .ok (.iconst 3, 1) := by decide +kernel
theorem dX0_first_17 : decode cX0_first 17 = .ok (.imul, 1) := by decide +kernel
theorem dX0_first_18 : decode cX0_first 18 = .ok (.invokevirtual 30, 3) := by decide +kernel
theorem dX0_first_21 : decode cX0_first 21 = .ok (.goto 4, 3) := by decide +kernel
theorem dX0_first_24 : decode cX0_first 24 = .ok (.iconst (-1), 1) := by decide +kernel
theorem dX0_first_25 : decode cX0_first 25 = .ok (.ireturn, 1) := by decide +kernel
set_option maxRecDepth 20000 in
theorem ggX0_append_X0_isFull : GoodIn wsX0_append wsX0_isFull := goodIn_r _ [7, 2, 8, 9, 10, 11, 12, 13, 14, 25, 26, 27, 28] (by decide +kernel) (by decide +kernel)
set_option maxRecDepth 20000 in
theorem gX0_append_X0_isFull : GoodIn wsX0_append (wsV RX0 34 RX0 yX0_isFull wsX0_isFull) := goodIn_app (goodIn_of _ (by decide +kernel)) ggX0_append_X0_isFull
set_option maxRecDepth 20000 in
theorem ggX0_append_X5_at : GoodIn wsX0_append wsX5_at := goodIn_r _ [13, 14, 28] (by decide +kernel) (by decide +kernel)
set_option maxRecDepth 20000 in
theorem gX0_append_X5_at : GoodIn wsX0_append (wsV RX0 30 RX5 yX5_at wsX5_at) := goodIn_app (goodIn_of _ (by decide +kernel)) ggX0_append_X5_at
set_option maxRecDepth 20000 in
theorem ggX0_append_X5_put : GoodIn wsX0_append wsX5_put := goodIn_r _ [18, 14, 28] (by decide +kernel) (by decide +kernel)
set_option maxRecDepth 20000 in
theorem gX0_append_X5_put : GoodIn wsX0_append (wsV RX0 38 RX5 yX5_put wsX5_put) := goodIn_app (goodIn_of _ (by decide +kernel)) ggX0_append_X5_put
set_option maxRecDepth 20000 in
theorem ggX0_append_X5_add : GoodIn wsX0_append wsX5_add := goodIn_r _ [22, 23, 10, 11, 12, 13, 14, 24, 16, 17, 18, 28] (by decide +kernel) (by decide +kernel)
set_option maxRecDepth 20000 in
theorem gX0_append_X5_add : GoodIn wsX0_append (wsV RX0 42 RX5 yX5_add wsX5_add) := goodIn_app (goodIn_of _ (by decide +kernel)) ggX0_append_X5_add
theorem dX0_append_0 : decode cX0_append 0 = .ok (.aload_n 0, 1) := by decide +kernel
theorem dX0_append_1 : decode cX0_append 1 = .ok (.iload_n 1, 1) := by decide +kernel
theorem dX0_append_2 : decode cX0_append 2 = .ok (.invokevirtual 34, 3) := by decide +kernel
theorem dX0_append_5 : decode cX0_append 5 = .ok (.ifCond .ne 32, 3) := by decide +kernel
theorem dX0_append_8 : decode cX0_append 8 = .ok (.aload_n 0, 1) := by decide +kernel
theorem dX0_append_9 : decode cX0_append 9 = .ok (.getfield 14, 3) := by decide +kernel
theorem dX0_append_12 : decode cX0_append 12 = .ok (.iload_n 1, 1) := by decide +kernel
theorem dX0_append_13 : decode cX0_append 13 = .ok (.iconst 3, 1) := by decide +kernel
theorem dX0_append_14 : decode cX0_append 14 = .ok (.imul, 1) := by decide +kernel
theorem dX0_append_15 : decode cX0_append 15 = .ok (.aload_n 0, 1) := by decide +kernel
theorem dX0_append_16 : decode cX0_append 16 = .ok (.getfield 20, 3) := by decide +kernel
theorem dX0_append_19 : decode cX0_append 19 = .ok (.iload_n 1, 1) := by decide +kernel
theorem dX0_append_20 : decode cX0_append 20 = .ok (.invokevirtual 30, 3) := by decide +kernel
theorem dX0_append_23 : decode cX0_append 23 = .ok (.iadd, 1) := by decide +kernel
theorem dX0_append_24 : decode cX0_append 24 = .ok (.iload_n 2, 1) := by decide +kernel
theorem dX0_append_25 : decode cX0_append 25 = .ok (.invokevirtual 38, 3) := by decide +kernel
theorem dX0_append_28 : decode cX0_append 28 = .ok (.aload_n 0, 1) := by decide +kernel
theorem dX0_append_29 : decode cX0_append 29 = .ok (.getfield 20, 3) := by decide +kernel
theorem dX0_append_32 : decode cX0_append 32 = .ok (.iload_n 1, 1) := by decide +kernel
theorem dX0_append_33 : decode cX0_append 33 = .ok (.iconst 1, 1) := by decide +kernel
theorem dX0_append_34 : decode cX0_append 34 = .ok (.invokevirtual 42, 3) := by decide +kernel
theorem dX0_append_37 : decode cX0_append 37 = .ok (.return_, 1) := by decide +kernel
set_option maxRecDepth 20000 in
theorem ggX0_removeFirst_X5_at : GoodIn wsX0_removeFirst wsX5_at := goodIn_r _ [7, 8, 22] (by decide +kernel) (by decide +kernel)
set_option maxRecDepth 20000 in
theorem gX0_removeFirst_X5_at : GoodIn wsX0_removeFirst (wsV RX0 30 RX5 yX5_at wsX5_at) := goodIn_app (goodIn_of _ (by decide +kernel)) ggX0_removeFirst_X5_at
set_option maxRecDepth 20000 in
theorem ggX0_removeFirst_X5_put : GoodIn wsX0_removeFirst wsX5_put := goodIn_r _ [12, 8, 22] (by decide +kernel) (by decide +kernel)
set_option maxRecDepth 20000 in
theorem gX0_removeFirst_X5_put : GoodIn wsX0_removeFirst (wsV RX0 38 RX5 yX5_put wsX5_put) := goodIn_app (goodIn_of _ (by decide +kernel)) ggX0_removeFirst_X5_put
set_option maxRecDepth 20000 in
theorem ggX0_removeFirst_X5_add : GoodIn wsX0_removeFirst wsX5_add := goodIn_r _ [16, 17, 4, 5, 6, 7, 8, 18, 10, 11, 12, 22] (by decide +kernel) (by decide +kernel)
set_option maxRecDepth 20000 in
theorem gX0_removeFirst_X5_add : GoodIn wsX0_removeFirst (wsV RX0 42 RX5 yX5_add wsX5_add) := goodIn_app (goodIn_of _ (by decide +kernel)) ggX0_removeFirst_X5_add
theorem dX0_removeFirst_0 : decode cX0_removeFirst 0 = .ok (.aload_n 0, 1) := by decide +kernel
theorem dX0_removeFirst_1 : decode cX0_removeFirst 1 = .ok (.getfield 20, 3) := by decide +kernel
theorem dX0_removeFirst_4 : decode cX0_removeFirst 4 = .ok (.iload_n 1, 1) := by decide +kernel
theorem dX0_removeFirst_5 : decode cX0_removeFirst 5 = .ok (.invokevirtual 30, 3) := by decide +kernel
theorem dX0_removeFirst_8 : decode cX0_removeFirst 8 = .ok (.ifCond .le 58, 3) := by decide +kernel
theorem dX0_removeFirst_11 : decode cX0_removeFirst 11 = .ok (.iload_n 1, 1) := by decide +kernel
theorem dX0_removeFirst_12 : decode cX0_removeFirst 12 = .ok (.iconst 3, 1) := by decide +kernel
theorem dX0_removeFirst_13 : decode cX0_removeFirst 13 = .ok (.imul, 1) := by decide +kernel
theorem dX0_removeFirst_14 : decode cX0_removeFirst 14 = .ok (.istore_n 2, 1) := by decide +kernel
theorem dX0_removeFirst_15 : decode cX0_removeFirst 15 = .ok (.iload_n 2, 1) := by decide +kernel
theorem dX0_removeFirst_16 : decode cX0_removeFirst 16 = .ok (.iconst 1, 1) := by decide +kernel
theorem dX0_removeFirst_17 : decode cX0_removeFirst 17 = .ok (.iadd, 1) := by decide +kernel
theorem dX0_removeFirst_18 : decode cX0_removeFirst 18 = .ok (.istore_n 3, 1) := by decide +kernel
theorem dX0_removeFirst_19 : decode cX0_removeFirst 19 = .ok (.iload_n 3, 1) := by decide +kernel
theorem dX0_removeFirst_20 : decode cX0_removeFirst 20 = .ok (.iload_n 2, 1) := by decide +kernel
theorem dX0_removeFirst_21 : decode cX0_removeFirst 21 = .ok (.aload_n 0, 1) := by decide +kernel
theorem dX0_removeFirst_22 : decode cX0_removeFirst 22 = .ok (.getfield 20, 3) := by decide +kernel
theorem dX0_removeFirst_25 : decode cX0_removeFirst 25 = .ok (.iload_n 1, 1) := by decide +kernel
theorem dX0_removeFirst_26 : decode cX0_removeFirst 26 = .ok (.invokevirtual 30, 3) := by decide +kernel
theorem dX0_removeFirst_29 : decode cX0_removeFirst 29 = .ok (.iadd, 1) := by decide +kernel
theorem dX0_removeFirst_30 : decode cX0_removeFirst 30 = .ok (.if_icmp .ge 27, 3) := by decide +kernel
theorem dX0_removeFirst_33 : decode cX0_removeFirst 33 = .ok (.aload_n 0, 1) := by decide +kernel
theorem dX0_removeFirst_34 : decode cX0_removeFirst 34 = .ok (.getfield 14, 3) := by decide +kernel
theorem dX0_removeFirst_37 : decode cX0_removeFirst 37 = .ok (.iload_n 3, 1) := by decide +kernel
theorem dX0_removeFirst_38 : decode cX0_removeFirst 38 = .ok (.iconst 1, 1) := by decide +kernel
theorem dX0_removeFirst_39 : decode cX0_removeFirst 39 = .ok (.isub, 1) := by decide +kernel
theorem dX0_removeFirst_40 : decode cX0_removeFirst 40 = .ok (.aload_n 0, 1) := by decide +kernel
theorem dX0_removeFirst_41 : decode cX0_removeFirst 41 = .ok (.getfield 14, 3) := by decide +kernel
theorem dX0_removeFirst_44 : decode cX0_removeFirst 44 = .ok (.iload_n 3, 1) := by decide +kernel
theorem dX0_removeFirst_45 : decode cX0_removeFirst 45 = .ok (.invokevirtual 30, 3) := by decide +kernel
theorem dX0_removeFirst_48 : decode cX0_removeFirst 48 = .ok (.invokevirtual 38, 3) := by decide +kernel
theorem dX0_removeFirst_51 : decode cX0_removeFirst 51 = .ok (.iinc 3 1, 3) := by decide +kernel
theorem dX0_removeFirst_54 : decode cX0_removeFirst 54 = .ok (.goto (-35), 3) := by decide +kernel
theorem dX0_removeFirst_57 : decode cX0_removeFirst 57 = .ok (.aload_n 0, 1) := by decide +kernel
theorem dX0_removeFirst_58 : decode cX0_removeFirst 58 = .ok (.getfield 20, 3) := by decide +kernel
theorem dX0_removeFirst_61 : decode cX0_removeFirst 61 = .ok (.iload_n 1, 1) := by decide +kernel
theorem dX0_removeFirst_62 : decode cX0_removeFirst 62 = .ok (.iconst (-1), 1) := by decide +kernel
theorem dX0_removeFirst_63 : decode cX0_removeFirst 63 = .ok (.invokevirtual 42, 3) := by decide +kernel
theorem dX0_removeFirst_66 : decode cX0_removeFirst 66 = .ok (.return_, 1) := by decide +kernel
set_option maxRecDepth 20000 in
theorem ggX0_load_X5_at : GoodIn wsX0_load wsX5_at := goodIn_r _ [6, 7, 11] (by decide +kernel) (by decide +kernel)
set_option maxRecDepth 20000 in
theorem gX0_load_X5_at : GoodIn wsX0_load (wsV RX0 30 RX5 yX5_at wsX5_at) := goodIn_app (goodIn_of _ (by decide +kernel)) ggX0_load_X5_at
theorem dX0_load_0 : decode cX0_load 0 = .ok (.iconst 0, 1) := by decide +kernel
theorem dX0_load_1 : decode cX0_load 1 = .ok (.istore_n 2, 1) := by decide +kernel
theorem dX0_load_2 : decode cX0_load 2 = .ok (.iconst 0, 1) := by decide +kernel
theorem dX0_load_3 : decode cX0_load 3 = .ok (.istore_n 3, 1) := by decide +kernel
theorem dX0_load_4 : decode cX0_load 4 = .ok (.iload_n 3, 1) := by decide +kernel
theorem dX0_load_5 : decode cX0_load 5 = .ok (.bipush 10, 2) := by decide +kernel
theorem dX0_load_7 : decode cX0_load 7 = .ok (.if_icmp .ge 25, 3) := by decide +kernel
theorem dX0_load_10 : decode cX0_load 10 = .ok (.iload_n 2, 1) := by decide +kernel
theorem dX0_load_11 : decode cX0_load 11 = .ok (.aload_n 0, 1) := by decide +kernel
theorem dX0_load_12 : decode cX0_load 12 = .ok (.getfield 20, 3) := by decide +kernel
theorem dX0_load_15 : decode cX0_load 15 = .ok (.iload_n 1, 1) := by decide +kernel
theorem dX0_load_16 : decode cX0_load 16 = .ok (.bipush 10, 2) := by decide +kernel
theorem dX0_load_18 : decode cX0_load 18 = .ok (.imul, 1) := by decide +kernel
theorem dX0_load_19 : decode cX0_load 19 = .ok (.iload_n 3, 1) := by decide +kernel
theorem dX0_load_20 : decode cX0_load 20 = .ok (.iadd, 1) := by decide +kernel
theorem dX0_load_21 : decode cX0_load 21 = .ok (.invokevirtual 30, 3) := by decide +kernel
theorem dX0_load_24 : decode cX0_load 24 = .ok (.iadd, 1) := by decide +kernel
theorem dX0_load_25 : decode cX0_load 25 = .ok (.istore_n 2, 1) := by decide +kernel
theorem dX0_load_26 : decode cX0_load 26 = .ok (.iinc 3 1, 3) := by decide +kernel
theorem dX0_load_29 : decode cX0_load 29 = .ok (.goto (-25), 3) := by decide +kernel
theorem dX0_load_32 : decode cX0_load 32 = .ok (.iload_n 2, 1) := by decide +kernel
theorem dX0_load_33 : decode cX0_load 33 = .ok (.ireturn, 1) := by decide +kernel
set_option maxRecDepth 20000 in
theorem ggX1_init_X5_init : GoodIn wsX1_init wsX5_init := goodIn_r _ [14, 15, 2, 3, 16, 17, 18] (by decide +kernel) (by decide +kernel)
set_option maxRecDepth 20000 in
theorem gX1_init_X5_init : GoodIn wsX1_init (wsX5_init) := ggX1_init_X5_init
theorem dX1_init_0 : decode cX1_init 0 = .ok (.aload_n 0, 1) := by decide +kernel
theorem dX1_init_1 : decode cX1_init 1 = .ok (.invokespecial 3, 3) := by decide +kernel
theorem dX1_init_4 : decode cX1_init 4 = .ok (.aload_n 0, 1) := by decide +kernel
theorem dX1_init_5 : decode cX1_init 5 = .ok (.new 9, 3) := by decide +kernel
theorem dX1_init_8 : decode cX1_init 8 = .ok (.dup, 1) := by decide +kernel
theorem dX1_init_9 : decode cX1_init 9 = .ok (.sipush 160, 3) := by decide +kernel
theorem dX1_init_12 : decode cX1_init 12 = .ok (.invokespecial 11, 3) := by decide +kernel
theorem dX1_init_15 : decode cX1_init 15 = .ok (.putfield 14, 3) := by decide +kernel
theorem dX1_init_18 : decode cX1_init 18 = .ok (.aload_n 0, 1) := by decide +kernel
theorem dX1_init_19 : decode cX1_init 19 = .ok (.new 9, 3) := by decide +kernel
theorem dX1_init_22 : decode cX1_init 22 = .ok (.dup, 1) := by decide +kernel
theorem dX1_init_23 : decode cX1_init 23 = .ok (.sipush 160, 3) := by decide +kernel
theorem dX1_init_26 : decode cX1_init 26 = .ok (.invokespecial 11, 3) := by decide +kernel
theorem dX1_init_29 : decode cX1_init 29 = .ok (.putfield 20, 3) := by decide +kernel
theorem dX1_init_32 : decode cX1_init 32 = .ok (.aload_n 0, 1) := by decide +kernel
theorem dX1_init_33 : decode cX1_init 33 = .ok (.aload_n 1, 1) := by decide +kernel
theorem dX1_init_34 : decode cX1_init 34 = .ok (.putfield 23, 3) := by decide +kernel
theorem dX1_init_37 : decode cX1_init 37 = .ok (.aload_n 0, 1) := by decide +kernel
theorem dX1_init_38 : decode cX1_init 38 = .ok (.aload_n 2, 1) := by decide +kernel
theorem dX1_init_39 : decode cX1_init 39 = .ok (.putfield 27, 3) := by decide +kernel
theorem dX1_init_42 : decode cX1_init 42 = .ok (.aload_n 0, 1) := by decide +kernel
theorem dX1_init_43 : decode cX1_init 43 = .ok (.aload_n 3, 1) := by decide +kernel
theorem dX1_init_44 : decode cX1_init 44 = .ok (.putfield 31, 3) := by decide +kernel
theorem dX1_init_47 : decode cX1_init 47 = .ok (.return_, 1) := by decide +kernel
set_option maxRecDepth 20000 in
theorem ggX1_countWaiting_X3_size : GoodIn wsX1_countWaiting wsX3_size := goodIn_r _ [7, 8, 9, 80, 81, 82, 83] (by decide +kernel) (by decide +kernel)
set_option maxRecDepth 20000 in
theorem gX1_countWaiting_X3_size : GoodIn wsX1_countWaiting (wsV RX1 35 RX3 yX3_size wsX3_size) := goodIn_app (goodIn_of _ (by decide +kernel)) ggX1_countWaiting_X3_size
set_option maxRecDepth 20000 in
theorem ggX1_countWaiting_X1_awaitedBy : GoodIn wsX1_countWaiting wsX1_awaitedBy := goodIn_r _ [14, 15, 16, 17, 18, 19, 20, 21, 22, 23, 24, 25, 26, 27, 28, 29, 30, 31, 32, 33, 34, 35, 36, 37, 38, 39, 40, 41, 42, 43, 6, 44, 45, 46, 47, 48, 49, 50, 51, 52, 53, 13, 54, 1, 55, 56, 57, 58, 8, 9, 59, 60, 61, 62, 63, 64, 65, 66, 75, 76, 77, 78, 79, 84, 85, 86, 87, 88, 89, 90, 91, 92, 93, 94, 95, 96, 97, 98, 80, 81, 82, 83] (by decide +kernel) (by decide +kernel)
set_option maxRecDepth 20000 in
theorem gX1_countWaiting_X1_awaitedBy : GoodIn wsX1_countWaiting (wsV RX1 41 RX1 yX1_awaitedBy wsX1_awaitedBy) := goodIn_app (goodIn_of _ (by decide +kernel)) ggX1_countWaiting_X1_awaitedBy
set_option maxRecDepth 20000 in
theorem ggX1_countWaiting_X5_put : GoodIn wsX1_countWaiting wsX5_put := goodIn_r _ [70, 29, 98] (by decide +kernel) (by decide +kernel)
set_option maxRecDepth 20000 in
theorem gX1_countWaiting_X5_put : GoodIn wsX1_countWaiting (wsV RX1 45 RX5 yX5_put wsX5_put) := goodIn_app (goodIn_of _ (by decide +kernel)) ggX1_countWaiting_X5_put
set_option maxRecDepth 20000 in
theorem ggX1_countWaiting_X1_comesBack : GoodIn wsX1_countWaiting wsX1_comesBack := goodIn_r _ [74, 2, 30, 25, 26, 27, 28, 29, 75, 76, 77, 78, 79, 98] (by decide +kernel) (by decide +kernel)
set_option maxRecDepth 20000 in
theorem gX1_countWaiting_X1_comesBack : GoodIn wsX1_countWaiting (wsV RX1 49 RX1 yX1_comesBack wsX1_comesBack) := goodIn_app (goodIn_of _ (by decide +kernel)) ggX1_countWaiting_X1_comesBack
theorem dX1_countWaiting_0 : decode cX1_countWaiting 0 = .ok (.aload_n 0, 1) := by decide +kernel
theorem dX1_countWaiting_1 : decode cX1_countWaiting 1 = .ok (.getfield 23, 3) := by decide +kernel
theorem dX1_countWaiting_4 : decode cX1_countWaiting 4 = .ok (.invokevirtual 35, 3) := by decide +kernel
theorem dX1_countWaiting_7 : decode cX1_countWaiting 7 = .ok (.bipush 10, 2) := by decide +kernel
theorem dX1_countWaiting_9 : decode cX1_countWaiting 9 = .ok (.imul, 1) := by decide +kernel
theorem dX1_countWaiting_10 : decode cX1_countWaiting 10 = .ok (.istore_n 1, 1) := by decide +kernel
theorem dX1_countWaiting_11 : decode cX1_countWaiting 11 = .ok (.iconst 0, 1) := by decide +kernel
theorem dX1_countWaiting_12 : decode cX1_countWaiting 12 = .ok (.istore_n 2, 1) := by decide +kernel
theorem dX1_countWaiting_13 : decode cX1_countWaiting 13 = .ok (.iload_n 2, 1) := by decide +kernel
theorem dX1_countWaiting_14 : decode cX1_countWaiting 14 = .ok (.iload_n 1, 1) := by decide +kernel
theorem dX1_countWaiting_15 : decode cX1_countWaiting 15 = .ok (.if_icmp .ge 22, 3) := by decide +kernel
theorem dX1_countWaiting_18 : decode cX1_countWaiting 18 = .ok (.aload_n 0, 1) := by decide +kernel
theorem dX1_countWaiting_19 : decode cX1_countWaiting 19 = .ok (.getfield 14, 3) := by decide +kernel
theorem dX1_countWaiting_22 : decode cX1_countWaiting 22 = .ok (.iload_n 2, 1) := by decide +kernel
theorem dX1_countWaiting_23 : decode cX1_countWaiting 23 = .ok (.aload_n 0, 1) := by decide +kernel
theorem dX1_countWaiting_24 : decode cX1_countWaiting 24 = .ok (.iload_n 2, 1) := by decide +kernel
theorem dX1_countWaiting_25 : decode cX1_countWaiting 25 = .ok (.invokevirtual 41, 3) := by decide +kernel
theorem dX1_countWaiting_28 : decode cX1_countWaiting 28 = .ok (.invokevirtual 45, 3) := by decide +kernel
theorem dX1_countWaiting_31 : decode cX1_countWaiting 31 = .ok (.iinc 2 1, 3) := by decide +kernel
theorem dX1_countWaiting_34 : decode cX1_countWaiting 34 = .ok (.goto (-21), 3) := by decide +kernel
theorem dX1_countWaiting_37 : decode cX1_countWaiting 37 = .ok (.iconst 0, 1) := by decide +kernel
theorem dX1_countWaiting_38 : decode cX1_countWaiting 38 = .ok (.istore_n 2, 1) := by decide +kernel
theorem dX1_countWaiting_39 : decode cX1_countWaiting 39 = .ok (.iconst 0, 1) := by decide +kernel
theorem dX1_countWaiting_40 : decode cX1_countWaiting 40 = .ok (.istore_n 3, 1) := by decide +kernel
theorem dX1_countWaiting_41 : decode cX1_countWaiting 41 = .ok (.iload_n 3, 1) := by decide +kernel
theorem dX1_countWaiting_42 : decode cX1_countWaiting 42 = .ok (.iload_n 1, 1) := by decide +kernel
theorem dX1_countWaiting_43 : decode cX1_countWaiting 43 = .ok (.if_icmp .ge 20, 3) := by decide +kernel
theorem dX1_countWaiting_46 : decode cX1_countWaiting 46 = .ok (.aload_n 0, 1) := by decide +kernel
theorem dX1_countWaiting_47 : decode cX1_countWaiting 47 = .ok (.iload_n 3, 1) := by decide +kernel
theorem dX1_countWaiting_48 : decode cX1_countWaiting 48 = .ok (.invokevirtual 49, 3) := by decide +kernel
theorem dX1_countWaiting_51 : decode cX1_countWaiting 51 = .ok (.ifCond .eq 6, 3) := by decide +kernel
theorem dX1_countWaiting_54 : decode cX1_countWaiting 54 = .ok (.iinc 2 1, 3) := by decide +kernel
theorem dX1_countWaiting_57 : decode cX1_countWaiting 57 = .ok (.iinc 3 1, 3) := by decide +kernel
theorem dX1_countWaiting_60 : decode cX1_countWaiting 60 = .ok (.goto (-19), 3) := by decide +kernel
theorem dX1_countWaiting_63 : decode cX1_countWaiting 63 = .ok (.iload_n 2, 1) := by decide +kernel
theorem dX1_countWaiting_64 : decode cX1_countWaiting 64 = .ok (.ireturn, 1) := by decide +kernel
set_option maxRecDepth 20000 in
theorem ggX1_awaitedBy_X0_first : GoodIn wsX1_awaitedBy wsX0_first := goodIn_r _ [7, 8, 9, 10, 11, 12, 13, 14, 15, 74, 75, 76, 77] (by decide +kernel) (by decide +kernel)
set_option maxRecDepth 20000 in
theorem gX1_awaitedBy_X0_first : GoodIn wsX1_awaitedBy (wsV RX1 53 RX0 yX0_first wsX0_first) := goodIn_app (goodIn_of _ (by decide +kernel)) ggX1_awaitedBy_X0_first
set_option maxRecDepth 20000 in
theorem ggX1_awaitedBy_X5_at : GoodIn wsX1_awaitedBy wsX5_at := goodIn_r _ [14, 15, 77] (by decide +kernel) (by decide +kernel)
set_option maxRecDepth 20000 in
theorem gX1_awaitedBy_X5_at : GoodIn wsX1_awaitedBy (wsV RX1 63 RX5 yX5_at wsX5_at) := goodIn_app (goodIn_of _ (by decide +kernel)) ggX1_awaitedBy_X5_at
set_option maxRecDepth 20000 in
theorem ggX1_awaitedBy_X4_outputOf : GoodIn wsX1_awaitedBy wsX4_outputOf := goodIn_r _ [21, 22, 23, 24, 25, 26, 11, 12, 13, 14, 15, 27, 28, 29, 30, 31, 32, 33, 34, 35, 36, 37, 63, 64, 65, 66, 67, 68, 69, 70, 71, 72, 73, 77, 78, 79, 80, 81] (by decide +kernel) (by decide +kernel)
set_option maxRecDepth 20000 in
theorem gX1_awaitedBy_X4_outputOf : GoodIn wsX1_awaitedBy (wsV RX1 66 RX4 yX4_outputOf wsX4_outputOf) := goodIn_app (goodIn_of _ (by decide +kernel)) ggX1_awaitedBy_X4_outputOf
set_option maxRecDepth 20000 in
theorem ggX1_awaitedBy_X1_nextBuffer : GoodIn wsX1_awaitedBy wsX1_nextBuffer := goodIn_r _ [42, 43, 44, 45, 46, 30, 47, 32, 48, 33, 49, 34, 11, 12, 13, 14, 15, 50, 51, 52, 58, 59, 60, 61, 62, 78, 79, 80, 81, 77] (by decide +kernel) (by decide +kernel)
set_option maxRecDepth 20000 in
theorem gX1_awaitedBy_X1_nextBuffer : GoodIn wsX1_awaitedBy (wsV RX1 72 RX1 yX1_nextBuffer wsX1_nextBuffer) := goodIn_app (goodIn_of _ (by decide +kernel)) ggX1_awaitedBy_X1_nextBuffer
set_option maxRecDepth 20000 in
theorem ggX1_awaitedBy_X0_isFull : GoodIn wsX1_awaitedBy wsX0_isFull := goodIn_r _ [56, 8, 57, 10, 11, 12, 13, 14, 15, 74, 75, 76, 77] (by decide +kernel) (by decide +kernel)
set_option maxRecDepth 20000 in
theorem gX1_awaitedBy_X0_isFull : GoodIn wsX1_awaitedBy (wsV RX1 76 RX0 yX0_isFull wsX0_isFull) := goodIn_app (goodIn_of _ (by decide +kernel)) ggX1_awaitedBy_X0_isFull
theorem dX1_awaitedBy_0 : decode cX1_awaitedBy 0 = .ok (.aload_n 0, 1) := by decide +kernel
theorem dX1_awaitedBy_1 : decode cX1_awaitedBy 1 = .ok (.getfield 31, 3) := by decide +kernel
theorem dX1_awaitedBy_4 : decode cX1_awaitedBy 4 = .ok (.iload_n 1, 1) := by decide +kernel
theorem dX1_awaitedBy_5 : decode cX1_awaitedBy 5 = .ok (.invokevirtual 53, 3) := by decide +kernel
theorem dX1_awaitedBy_8 : decode cX1_awaitedBy 8 = .ok (.istore_n 2, 1) := by decide +kernel
theorem dX1_awaitedBy_9 : decode cX1_awaitedBy 9 = .ok (.iload_n 2, 1) := by decide +kernel
theorem dX1_awaitedBy_10 : decode cX1_awaitedBy 10 = .ok (.iconst (-1), 1) := by decide +kernel
theorem dX1_awaitedBy_11 : decode cX1_awaitedBy 11 = .ok (.if_icmp .ne 5, 3) := by decide +kernel
theorem dX1_awaitedBy_14 : decode cX1_awaitedBy 14 = .ok (.iconst (-1), 1) := by decide +kernel
theorem dX1_awaitedBy_15 : decode cX1_awaitedBy 15 = .ok (.ireturn, 1) := by decide +kernel
theorem dX1_awaitedBy_16 : decode cX1_awaitedBy 16 = .ok (.aload_n 0, 1) := by decide +kernel
theorem dX1_awaitedBy_17 : decode cX1_awaitedBy 17 = .ok (.aload_n 0, 1) := by decide +kernel
theorem dX1_awaitedBy_18 : decode cX1_awaitedBy 18 = .ok (.getfield 27, 3) := by decide +kernel
theorem dX1_awaitedBy_21 : decode cX1_awaitedBy 21 = .ok (.getfield 58, 3) := by decide +kernel
theorem dX1_awaitedBy_24 : decode cX1_awaitedBy 24 = .ok (.iload_n 2, 1) := by decide +kernel
theorem dX1_awaitedBy_25 : decode cX1_awaitedBy 25 = .ok (.invokevirtual 63, 3) := by decide +kernel
theorem dX1_awaitedBy_28 : decode cX1_awaitedBy 28 = .ok (.aload_n 0, 1) := by decide +kernel
theorem dX1_awaitedBy_29 : decode cX1_awaitedBy 29 = .ok (.getfield 27, 3) := by decide +kernel
theorem dX1_awaitedBy_32 : decode cX1_awaitedBy 32 = .ok (.iload_n 2, 1) := by decide +kernel
theorem dX1_awaitedBy_33 : decode cX1_awaitedBy 33 = .ok (.invokevirtual 66, 3) := by decide +kernel
theorem dX1_awaitedBy_36 : decode cX1_awaitedBy 36 = .ok (.aload_n 0, 1) := by decide +kernel
theorem dX1_awaitedBy_37 : decode cX1_awaitedBy 37 = .ok (.getfield 27, 3) := by decide +kernel
theorem dX1_awaitedBy_40 : decode cX1_awaitedBy 40 = .ok (.getfield 69, 3) := by decide +kernel
theorem dX1_awaitedBy_43 : decode cX1_awaitedBy 43 = .ok (.iload_n 2, 1) := by decide +kernel
theorem dX1_awaitedBy_44 : decode cX1_awaitedBy 44 = .ok (.invokevirtual 63, 3) := by decide +kernel
theorem dX1_awaitedBy_47 : decode cX1_awaitedBy 47 = .ok (.invokevirtual 72, 3) := by decide +kernel
theorem dX1_awaitedBy_50 : decode cX1_awaitedBy 50 = .ok (.istore_n 3, 1) := by decide +kernel
theorem dX1_awaitedBy_51 : decode cX1_awaitedBy 51 = .ok (.iload_n 3, 1) := by decide +kernel
theorem dX1_awaitedBy_52 : decode cX1_awaitedBy 52 = .ok (.iconst (-1), 1) := by decide +kernel
theorem dX1_awaitedBy_53 : decode cX1_awaitedBy 53 = .ok (.if_icmp .eq 18, 3) := by decide +kernel
theorem dX1_awaitedBy_56 : decode cX1_awaitedBy 56 = .ok (.aload_n 0, 1) := by decide +kernel
theorem dX1_awaitedBy_57 : decode cX1_awaitedBy 57 = .ok (.getfield 31, 3) := by decide +kernel
theorem dX1_awaitedBy_60 : decode cX1_awaitedBy 60 = .ok (.iload_n 3, 1) := by decide +kernel
theorem dX1_awaitedBy_61 : decode cX1_awaitedBy 61 = .ok (.invokevirtual 76, 3) := by decide +kernel
theorem dX1_awaitedBy_64 : decode cX1_awaitedBy 64 = .ok (.ifCond .eq 7, 3) := by decide +kernel
theorem dX1_awaitedBy_67 : decode cX1_awaitedBy 67 = .ok (.iload_n 3, 1) := by decide +kernel
theorem dX1_awaitedBy_68 : decode cX1_awaitedBy 68 = .ok (.goto 4, 3) := by decide +kernel
theorem dX1_awaitedBy_71 : decode cX1_awaitedBy 71 = .ok (.iconst (-1), 1) := by decide +kernel
theorem dX1_awaitedBy_72 : decode cX1_awaitedBy 72 = .ok (.ireturn, 1) := by decide +kernel
set_option maxRecDepth 20000 in
theorem ggX1_comesBack_X5_at : GoodIn wsX1_comesBack wsX5_at := goodIn_r _ [6, 7, 13] (by decide +kernel) (by decide +kernel)
set_option maxRecDepth 20000 in
theorem gX1_comesBack_X5_at : GoodIn wsX1_comesBack (wsV RX1 63 RX5 yX5_at wsX5_at) := goodIn_app (goodIn_of _ (by decide +kernel)) ggX1_comesBack_X5_at
theorem dX1_comesBack_0 : decode cX1_comesBack 0 = .ok (.aload_n 0, 1) := by decide +kernel
theorem dX1_comesBack_1 : decode cX1_comesBack 1 = .ok (.getfield 14, 3) := by decide +kernel
theorem dX1_comesBack_4 : decode cX1_comesBack 4 = .ok (.iload_n 1, 1) := by decide +kernel
theorem dX1_comesBack_5 : decode cX1_comesBack 5 = .ok (.invokevirtual 63, 3) := by decide +kernel
theorem dX1_comesBack_8 : decode cX1_comesBack 8 = .ok (.istore_n 2, 1) := by decide +kernel
theorem dX1_comesBack_9 : decode cX1_comesBack 9 = .ok (.iconst 0, 1) := by decide +kernel
theorem dX1_comesBack_10 : decode cX1_comesBack 10 = .ok (.istore_n 3, 1) := by decide +kernel
theorem dX1_comesBack_11 : decode cX1_comesBack 11 = .ok (.iload_n 3, 1) := by decide +kernel
theorem dX1_comesBack_12 : decode cX1_comesBack 12 = .ok (.sipush 160, 3) := by decide +kernel
theorem dX1_comesBack_15 : decode cX1_comesBack 15 = .ok (.if_icmp .ge 30, 3) := by decide +kernel
theorem dX1_comesBack_18 : decode cX1_comesBack 18 = .ok (.iload_n 2, 1) := by decide +kernel
theorem dX1_comesBack_19 : decode cX1_comesBack 19 = .ok (.iconst (-1), 1) := by decide +kernel
theorem dX1_comesBack_20 : decode cX1_comesBack 20 = .ok (.if_icmp .eq 25, 3) := by decide +kernel
theorem dX1_comesBack_23 : decode cX1_comesBack 23 = .ok (.iload_n 2, 1) := by decide +kernel
theorem dX1_comesBack_24 : decode cX1_comesBack 24 = .ok (.iload_n 1, 1) := by decide +kernel
theorem dX1_comesBack_25 : decode cX1_comesBack 25 = .ok (.if_icmp .ne 5, 3) := by decide +kernel
theorem dX1_comesBack_28 : decode cX1_comesBack 28 = .ok (.iconst 1, 1) := by decide +kernel
theorem dX1_comesBack_29 : decode cX1_comesBack 29 = .ok (.ireturn, 1) := by decide +kernel
theorem dX1_comesBack_30 : decode cX1_comesBack 30 = .ok (.aload_n 0, 1) := by decide +kernel
theorem dX1_comesBack_31 : decode cX1_comesBack 31 = .ok (.getfield 14, 3) := by decide +kernel
theorem dX1_comesBack_34 : decode cX1_comesBack 34 = .ok (.iload_n 2, 1) := by decide +kernel
theorem dX1_comesBack_35 : decode cX1_comesBack 35 = .ok (.invokevirtual 63, 3) := by decide +kernel
theorem dX1_comesBack_38 : decode cX1_comesBack 38 = .ok (.istore_n 2, 1) := by decide +kernel
theorem dX1_comesBack_39 : decode cX1_comesBack 39 = .ok (.iinc 3 1, 3) := by decide +kernel
theorem dX1_comesBack_42 : decode cX1_comesBack 42 = .ok (.goto (-31), 3) := by decide +kernel
theorem dX1_comesBack_45 : decode cX1_comesBack 45 = .ok (.iconst 0, 1) := by decide +kernel
theorem dX1_comesBack_46 : decode cX1_comesBack 46 = .ok (.ireturn, 1) := by decide +kernel
set_option maxRecDepth 20000 in
theorem ggX1_hangsTogether_X5_fill : GoodIn wsX1_hangsTogether wsX5_fill := goodIn_r _ [7, 8, 75] (by decide +kernel) (by decide +kernel)
set_option maxRecDepth 20000 in
theorem gX1_hangsTogether_X5_fill : GoodIn wsX1_hangsTogether (wsV RX1 79 RX5 yX5_fill wsX5_fill) := goodIn_app (goodIn_of _ (by decide +kernel)) ggX1_hangsTogether_X5_fill
set_option maxRecDepth 20000 in
theorem ggX1_hangsTogether_X5_at : GoodIn wsX1_hangsTogether wsX5_at := goodIn_r _ [12, 8, 75] (by decide +kernel) (by decide +kernel)
set_option maxRecDepth 20000 in
theorem gX1_hangsTogether_X5_at : GoodIn wsX1_hangsTogether (wsV RX1 63 RX5 yX5_at wsX5_at) := goodIn_app (goodIn_of _ (by decide +kernel)) ggX1_hangsTogether_X5_at
set_option maxRecDepth 20000 in
theorem ggX1_hangsTogether_X1_hangAlong : GoodIn wsX1_hangsTogether wsX1_hangAlong := goodIn_r _ [17, 2, 18, 1, 9, 10, 11, 6, 12, 8, 19, 20, 21, 22, 23, 24, 25, 26, 27, 28, 29, 30, 31, 32, 33, 34, 35, 16, 36, 37, 38, 39, 40, 41, 42, 43, 44, 45, 46, 59, 60, 61, 62, 63, 64, 65, 66, 67, 68, 69, 70, 71, 72, 73, 74, 75, 76, 77, 78, 79] (by decide +kernel) (by decide +kernel)
set_option maxRecDepth 20000 in
theorem gX1_hangsTogether_X1_hangAlong : GoodIn wsX1_hangsTogether (wsV RX1 86 RX1 yX1_hangAlong wsX1_hangAlong) := goodIn_app (goodIn_of _ (by decide +kernel)) ggX1_hangsTogether_X1_hangAlong
set_option maxRecDepth 20000 in
theorem ggX1_hangsTogether_X1_cutEnds : GoodIn wsX1_hangsTogether wsX1_cutEnds := goodIn_r _ [50, 18, 1, 51, 52, 53, 25, 54, 41, 42, 9, 10, 11, 6, 12, 8, 55, 56, 57, 16, 58, 33, 34, 35, 36, 37, 38, 39, 40, 27, 28, 29, 19, 20, 21, 43, 44, 45, 46, 59, 60, 61, 62, 63, 76, 77, 78, 79, 75] (by decide +kernel) (by decide +kernel)
set_option maxRecDepth 20000 in
theorem gX1_hangsTogether_X1_cutEnds : GoodIn wsX1_hangsTogether (wsV RX1 89 RX1 yX1_cutEnds wsX1_cutEnds) := goodIn_app (goodIn_of _ (by decide +kernel)) ggX1_hangsTogether_X1_cutEnds
theorem dX1_hangsTogether_0 : decode cX1_hangsTogether 0 = .ok (.aload_n 0, 1) := by decide +kernel
theorem dX1_hangsTogether_1 : decode cX1_hangsTogether 1 = .ok (.getfield 20, 3) := by decide +kernel
theorem dX1_hangsTogether_4 : decode cX1_hangsTogether 4 = .ok (.iconst 0, 1) := by decide +kernel
theorem dX1_hangsTogether_5 : decode cX1_hangsTogether 5 = .ok (.invokevirtual 79, 3) := by decide +kernel
theorem dX1_hangsTogether_8 : decode cX1_hangsTogether 8 = .ok (.iconst 0, 1) := by decide +kernel
theorem dX1_hangsTogether_9 : decode cX1_hangsTogether 9 = .ok (.istore_n 1, 1) := by decide +kernel
theorem dX1_hangsTogether_10 : decode cX1_hangsTogether 10 = .ok (.iload_n 1, 1) := by decide +kernel
theorem dX1_hangsTogether_11 : decode cX1_hangsTogether 11 = .ok (.aload_n 0, 1) := by decide +kernel
theorem dX1_hangsTogether_12 : decode cX1_hangsTogether 12 = .ok (.getfield 27, 3) := by decide +kernel
theorem dX1_hangsTogether_15 : decode cX1_hangsTogether 15 = .ok (.getfield 82, 3) := by decide +kernel
theorem dX1_hangsTogether_18 : decode cX1_hangsTogether 18 = .ok (.if_icmp .ge 29, 3) := by decide +kernel
theorem dX1_hangsTogether_21 : decode cX1_hangsTogether 21 = .ok (.aload_n 0, 1) := by decide +kernel
theorem dX1_hangsTogether_22 : decode cX1_hangsTogether 22 = .ok (.getfield 27, 3) := by decide +kernel
theorem dX1_hangsTogether_25 : decode cX1_hangsTogether 25 = .ok (.getfield 58, 3) := by decide +kernel
theorem dX1_hangsTogether_28 : decode cX1_hangsTogether 28 = .ok (.iload_n 1, 1) := by decide +kernel
theorem dX1_hangsTogether_29 : decode cX1_hangsTogether 29 = .ok (.invokevirtual 63, 3) := by decide +kernel
theorem dX1_hangsTogether_32 : decode cX1_hangsTogether 32 = .ok (.iconst (-1), 1) := by decide +kernel
theorem dX1_hangsTogether_33 : decode cX1_hangsTogether 33 = .ok (.if_icmp .eq 8, 3) := by decide +kernel
theorem dX1_hangsTogether_36 : decode cX1_hangsTogether 36 = .ok (.aload_n 0, 1) := by decide +kernel
theorem dX1_hangsTogether_37 : decode cX1_hangsTogether 37 = .ok (.iload_n 1, 1) := by decide +kernel
theorem dX1_hangsTogether_38 : decode cX1_hangsTogether 38 = .ok (.invokevirtual 86, 3) := by decide +kernel
theorem dX1_hangsTogether_41 : decode cX1_hangsTogether 41 = .ok (.iinc 1 1, 3) := by decide +kernel
theorem dX1_hangsTogether_44 : decode cX1_hangsTogether 44 = .ok (.goto (-34), 3) := by decide +kernel
theorem dX1_hangsTogether_47 : decode cX1_hangsTogether 47 = .ok (.iconst 1, 1) := by decide +kernel
theorem dX1_hangsTogether_48 : decode cX1_hangsTogether 48 = .ok (.istore_n 1, 1) := by decide +kernel
theorem dX1_hangsTogether_49 : decode cX1_hangsTogether 49 = .ok (.iconst 0, 1) := by decide +kernel
theorem dX1_hangsTogether_50 : decode cX1_hangsTogether 50 = .ok (.istore_n 2, 1) := by decide +kernel
theorem dX1_hangsTogether_51 : decode cX1_hangsTogether 51 = .ok (.iload_n 2, 1) := by decide +kernel
theorem dX1_hangsTogether_52 : decode cX1_hangsTogether 52 = .ok (.sipush 160, 3) := by decide +kernel
theorem dX1_hangsTogether_55 : decode cX1_hangsTogether 55 = .ok (.if_icmp .ge 18, 3) := by decide +kernel
theorem dX1_hangsTogether_58 : decode cX1_hangsTogether 58 = .ok (.iload_n 1, 1) := by decide +kernel
theorem dX1_hangsTogether_59 : decode cX1_hangsTogether 59 = .ok (.ifCond .eq 14, 3) := by decide +kernel
theorem dX1_hangsTogether_62 : decode cX1_hangsTogether 62 = .ok (.aload_n 0, 1) := by decide +kernel
theorem dX1_hangsTogether_63 : decode cX1_hangsTogether 63 = .ok (.invokevirtual 89, 3) := by decide +kernel
theorem dX1_hangsTogether_66 : decode cX1_hangsTogether 66 = .ok (.istore_n 1, 1) := by decide +kernel
theorem dX1_hangsTogether_67 : decode cX1_hangsTogether 67 = .ok (.iinc 2 1, 3) := by decide +kernel
theorem dX1_hangsTogether_70 : decode cX1_hangsTogether 70 = .ok (.goto (-19), 3) := by decide +kernel
theorem dX1_hangsTogether_73 : decode cX1_hangsTogether 73 = .ok (.iconst 0, 1) := by decide +kernel
theorem dX1_hangsTogether_74 : decode cX1_hangsTogether 74 = .ok (.istore_n 2, 1) := by decide +kernel
theorem dX1_hangsTogether_75 : decode cX1_hangsTogether 75 = .ok (.iload_n 2, 1) := by decide +kernel
theorem dX1_hangsTogether_76 : decode cX1_hangsTogether 76 = .ok (.sipush 160, 3) := by decide +kernel
theorem dX1_hangsTogether_79 : decode cX1_hangsTogether 79 = .ok (.if_icmp .ge 22, 3) := by decide +kernel
theorem dX1_hangsTogether_82 : decode cX1_hangsTogether 82 = .ok (.aload_n 0, 1) := by decide +kernel
theorem dX1_hangsTogether_83 : decode cX1_hangsTogether 83 = .ok (.getfield 20, 3) := by decide +kernel
theorem dX1_hangsTogether_86 : decode cX1_hangsTogether 86 = .ok (.iload_n 2, 1) := by decide +kernel
theorem dX1_hangsTogether_87 : decode cX1_hangsTogether 87 = .ok (.invokevirtual 63, 3) := by decide +kernel
theorem dX1_hangsTogether_90 : decode cX1_hangsTogether 90 = .ok (.ifCond .eq 5, 3) := by decide +kernel
theorem dX1_hangsTogether_93 : decode cX1_hangsTogether 93 = .ok (.iconst 1, 1) := by decide +kernel
theorem dX1_hangsTogether_94 : decode cX1_hangsTogether 94 = .ok (.ireturn, 1) := by decide +kernel
theorem dX1_hangsTogether_95 : decode cX1_hangsTogether 95 = .ok (.iinc 2 1, 3) := by decide +kernel
theorem dX1_hangsTogether_98 : decode cX1_hangsTogether 98 = .ok (.goto (-23), 3) := by decide +kernel
theorem dX1_hangsTogether_101 : decode cX1_hangsTogether 101 = .ok (.iconst 0, 1) := by decide +kernel
theorem dX1_hangsTogether_102 : decode cX1_hangsTogether 102 = .ok (.ireturn, 1) := by decide +kernel
set_option maxRecDepth 20000 in
theorem ggX1_hangAlong_X5_at : GoodIn wsX1_hangAlong wsX5_at := goodIn_r _ [8, 9, 55] (by decide +kernel) (by decide +kernel)
set_option maxRecDepth 20000 in
theorem gX1_hangAlong_X5_at : GoodIn wsX1_hangAlong (wsV RX1 63 RX5 yX5_at wsX5_at) := goodIn_app (goodIn_of _ (by decide +kernel)) ggX1_hangAlong_X5_at
set_option maxRecDepth 20000 in
theorem ggX1_hangAlong_X7_bufferOf : GoodIn wsX1_hangAlong wsX7_bufferOf := goodIn_r _ [12] (by decide +kernel) (by decide +kernel)
set_option maxRecDepth 20000 in
theorem gX1_hangAlong_X7_bufferOf_n96 : GoodIn wsX1_hangAlong (wsX7_bufferOf) := ggX1_hangAlong_X7_bufferOf
set_option maxRecDepth 20000 in
theorem ggX1_hangAlong_X3_outputTowards : GoodIn wsX1_hangAlong wsX3_outputTowards := goodIn_r _ [17, 18, 19, 20, 5, 6, 7, 8, 9, 21, 22, 16, 23, 56, 57, 58, 59, 55] (by decide +kernel) (by decide +kernel)
set_option maxRecDepth 20000 in
theorem gX1_hangAlong_X3_outputTowards : GoodIn wsX1_hangAlong (wsV RX1 105 RX3 yX3_outputTowards wsX3_outputTowards) := goodIn_app (goodIn_of _ (by decide +kernel)) ggX1_hangAlong_X3_outputTowards
set_option maxRecDepth 20000 in
theorem ggX1_hangAlong_X1_nextBuffer : GoodIn wsX1_hangAlong wsX1_nextBuffer := goodIn_r _ [28, 2, 29, 30, 31, 16, 32, 18, 33, 19, 34, 20, 5, 6, 7, 8, 9, 10, 11, 12, 39, 40, 41, 42, 43, 56, 57, 58, 59, 55] (by decide +kernel) (by decide +kernel)
set_option maxRecDepth 20000 in
theorem gX1_hangAlong_X1_nextBuffer : GoodIn wsX1_hangAlong (wsV RX1 72 RX1 yX1_nextBuffer wsX1_nextBuffer) := goodIn_app (goodIn_of _ (by decide +kernel)) ggX1_hangAlong_X1_nextBuffer
set_option maxRecDepth 20000 in
theorem ggX1_hangAlong_X5_put : GoodIn wsX1_hangAlong wsX5_put := goodIn_r _ [38, 9, 55] (by decide +kernel) (by decide +kernel)
set_option maxRecDepth 20000 in
theorem gX1_hangAlong_X5_put : GoodIn wsX1_hangAlong (wsV RX1 45 RX5 yX5_put wsX5_put) := goodIn_app (goodIn_of _ (by decide +kernel)) ggX1_hangAlong_X5_put
set_option maxRecDepth 20000 in
theorem ggX1_hangAlong_X3_behind : GoodIn wsX1_hangAlong wsX3_behind := goodIn_r _ [32, 18, 33, 19, 34, 20, 5, 6, 7, 8, 9, 56, 57, 58, 59, 55] (by decide +kernel) (by decide +kernel)
set_option maxRecDepth 20000 in
theorem gX1_hangAlong_X3_behind : GoodIn wsX1_hangAlong (wsV RX1 108 RX3 yX3_behind wsX3_behind) := goodIn_app (goodIn_of _ (by decide +kernel)) ggX1_hangAlong_X3_behind
theorem dX1_hangAlong_0 : decode cX1_hangAlong 0 = .ok (.aload_n 0, 1) := by decide +kernel
theorem dX1_hangAlong_1 : decode cX1_hangAlong 1 = .ok (.getfield 27, 3) := by decide +kernel
theorem dX1_hangAlong_4 : decode cX1_hangAlong 4 = .ok (.getfield 58, 3) := by decide +kernel
theorem dX1_hangAlong_7 : decode cX1_hangAlong 7 = .ok (.iload_n 1, 1) := by decide +kernel
theorem dX1_hangAlong_8 : decode cX1_hangAlong 8 = .ok (.invokevirtual 63, 3) := by decide +kernel
theorem dX1_hangAlong_11 : decode cX1_hangAlong 11 = .ok (.istore_n 2, 1) := by decide +kernel
theorem dX1_hangAlong_12 : decode cX1_hangAlong 12 = .ok (.aload_n 0, 1) := by decide +kernel
theorem dX1_hangAlong_13 : decode cX1_hangAlong 13 = .ok (.getfield 27, 3) := by decide +kernel
theorem dX1_hangAlong_16 : decode cX1_hangAlong 16 = .ok (.getfield 69, 3) := by decide +kernel
theorem dX1_hangAlong_19 : decode cX1_hangAlong 19 = .ok (.iload_n 1, 1) := by decide +kernel
theorem dX1_hangAlong_20 : decode cX1_hangAlong 20 = .ok (.invokevirtual 63, 3) := by decide +kernel
theorem dX1_hangAlong_23 : decode cX1_hangAlong 23 = .ok (.istore_n 3, 1) := by decide +kernel
theorem dX1_hangAlong_24 : decode cX1_hangAlong 24 = .ok (.iload_n 2, 1) := by decide +kernel
theorem dX1_hangAlong_25 : decode cX1_hangAlong 25 = .ok (.aload_n 0, 1) := by decide +kernel
theorem dX1_hangAlong_26 : decode cX1_hangAlong 26 = .ok (.getfield 27, 3) := by decide +kernel
theorem dX1_hangAlong_29 : decode cX1_hangAlong 29 = .ok (.getfield 93, 3) := by decide +kernel
theorem dX1_hangAlong_32 : decode cX1_hangAlong 32 = .ok (.iload_n 1, 1) := by decide +kernel
theorem dX1_hangAlong_33 : decode cX1_hangAlong 33 = .ok (.invokevirtual 63, 3) := by decide +kernel
theorem dX1_hangAlong_36 : decode cX1_hangAlong 36 = .ok (.iload_n 3, 1) := by decide +kernel
theorem dX1_hangAlong_37 : decode cX1_hangAlong 37 = .ok (.invokestatic 96, 3) := by decide +kernel
theorem dX1_hangAlong_40 : decode cX1_hangAlong 40 = .ok (.istore 4, 2) := by decide +kernel
theorem dX1_hangAlong_42 : decode cX1_hangAlong 42 = .ok (.iconst 0, 1) := by decide +kernel
theorem dX1_hangAlong_43 : decode cX1_hangAlong 43 = .ok (.istore 5, 2) := by decide +kernel
theorem dX1_hangAlong_45 : decode cX1_hangAlong 45 = .ok (.iload 5, 2) := by decide +kernel
theorem dX1_hangAlong_47 : decode cX1_hangAlong 47 = .ok (.bipush 16, 2) := by decide +kernel
theorem dX1_hangAlong_49 : decode cX1_hangAlong 49 = .ok (.if_icmp .ge 96, 3) := by decide +kernel
theorem dX1_hangAlong_52 : decode cX1_hangAlong 52 = .ok (.aload_n 0, 1) := by decide +kernel
theorem dX1_hangAlong_53 : decode cX1_hangAlong 53 = .ok (.getfield 23, 3) := by decide +kernel
theorem dX1_hangAlong_56 : decode cX1_hangAlong 56 = .ok (.iload_n 2, 1) := by decide +kernel
theorem dX1_hangAlong_57 : decode cX1_hangAlong 57 = .ok (.aload_n 0, 1) := by decide +kernel
theorem dX1_hangAlong_58 : decode cX1_hangAlong 58 = .ok (.getfield 27, 3) := by decide +kernel
theorem dX1_hangAlong_61 : decode cX1_hangAlong 61 = .ok (.getfield 99, 3) := by decide +kernel
theorem dX1_hangAlong_64 : decode cX1_hangAlong 64 = .ok (.iload_n 1, 1) := by decide +kernel
theorem dX1_hangAlong_65 : decode cX1_hangAlong 65 = .ok (.invokevirtual 63, 3) := by decide +kernel
theorem dX1_hangAlong_68 : decode cX1_hangAlong 68 = .ok (.aload_n 0, 1) := by decide +kernel
theorem dX1_hangAlong_69 : decode cX1_hangAlong 69 = .ok (.getfield 27, 3) := by decide +kernel
theorem dX1_hangAlong_72 : decode cX1_hangAlong 72 = .ok (.getfield 102, 3) := by decide +kernel
theorem dX1_hangAlong_75 : decode cX1_hangAlong 75 = .ok (.iload_n 1, 1) := by decide +kernel
theorem dX1_hangAlong_76 : decode cX1_hangAlong 76 = .ok (.invokevirtual 63, 3) := by decide +kernel
theorem dX1_hangAlong_79 : decode cX1_hangAlong 79 = .ok (.invokevirtual 105, 3) := by decide +kernel
theorem dX1_hangAlong_82 : decode cX1_hangAlong 82 = .ok (.istore 6, 2) := by decide +kernel
theorem dX1_hangAlong_84 : decode cX1_hangAlong 84 = .ok (.aload_n 0, 1) := by decide +kernel
theorem dX1_hangAlong_85 : decode cX1_hangAlong 85 = .ok (.iload_n 2, 1) := by decide +kernel
theorem dX1_hangAlong_86 : decode cX1_hangAlong 86 = .ok (.iload 6, 2) := by decide +kernel
theorem dX1_hangAlong_88 : decode cX1_hangAlong 88 = .ok (.iload_n 3, 1) := by decide +kernel
theorem dX1_hangAlong_89 : decode cX1_hangAlong 89 = .ok (.invokevirtual 72, 3) := by decide +kernel
theorem dX1_hangAlong_92 : decode cX1_hangAlong 92 = .ok (.istore 7, 2) := by decide +kernel
theorem dX1_hangAlong_94 : decode cX1_hangAlong 94 = .ok (.iload 7, 2) := by decide +kernel
theorem dX1_hangAlong_96 : decode cX1_hangAlong 96 = .ok (.iconst (-1), 1) := by decide +kernel
theorem dX1_hangAlong_97 : decode cX1_hangAlong 97 = .ok (.if_icmp .ne 4, 3) := by decide +kernel
theorem dX1_hangAlong_100 : decode cX1_hangAlong 100 = .ok (.return_, 1) := by decide +kernel
theorem dX1_hangAlong_101 : decode cX1_hangAlong 101 = .ok (.aload_n 0, 1) := by decide +kernel
theorem dX1_hangAlong_102 : decode cX1_hangAlong 102 = .ok (.getfield 20, 3) := by decide +kernel
theorem dX1_hangAlong_105 : decode cX1_hangAlong 105 = .ok (.iload 4, 2) := by decide +kernel
theorem dX1_hangAlong_107 : decode cX1_hangAlong 107 = .ok (.aload_n 0, 1) := by decide +kernel
theorem dX1_hangAlong_108 : decode cX1_hangAlong 108 = .ok (.getfield 20, 3) := by decide +kernel
theorem dX1_hangAlong_111 : decode cX1_hangAlong 111 = .ok (.iload 4, 2) := by decide +kernel
theorem dX1_hangAlong_113 : decode cX1_hangAlong 113 = .ok (.invokevirtual 63, 3) := by decide +kernel
theorem dX1_hangAlong_116 : decode cX1_hangAlong 116 = .ok (.iconst 1, 1) := by decide +kernel
theorem dX1_hangAlong_117 : decode cX1_hangAlong 117 = .ok (.iload 6, 2) := by decide +kernel
theorem dX1_hangAlong_119 : decode cX1_hangAlong 119 = .ok (.ishl, 1) := by decide +kernel
theorem dX1_hangAlong_120 : decode cX1_hangAlong 120 = .ok (.ior, 1) := by decide +kernel
theorem dX1_hangAlong_121 : decode cX1_hangAlong 121 = .ok (.invokevirtual 45, 3) := by decide +kernel
theorem dX1_hangAlong_124 : decode cX1_hangAlong 124 = .ok (.aload_n 0, 1) := by decide +kernel
theorem dX1_hangAlong_125 : decode cX1_hangAlong 125 = .ok (.getfield 23, 3) := by decide +kernel
theorem dX1_hangAlong_128 : decode cX1_hangAlong 128 = .ok (.iload_n 2, 1) := by decide +kernel
theorem dX1_hangAlong_129 : decode cX1_hangAlong 129 = .ok (.iload 6, 2) := by decide +kernel
theorem dX1_hangAlong_131 : decode cX1_hangAlong 131 = .ok (.invokevirtual 108, 3) := by decide +kernel
theorem dX1_hangAlong_134 : decode cX1_hangAlong 134 = .ok (.istore_n 2, 1) := by decide +kernel
theorem dX1_hangAlong_135 : decode cX1_hangAlong 135 = .ok (.iload 7, 2) := by decide +kernel
theorem dX1_hangAlong_137 : decode cX1_hangAlong 137 = .ok (.istore 4, 2) := by decide +kernel
theorem dX1_hangAlong_139 : decode cX1_hangAlong 139 = .ok (.iinc 5 1, 3) := by decide +kernel
theorem dX1_hangAlong_142 : decode cX1_hangAlong 142 = .ok (.goto (-97), 3) := by decide +kernel
theorem dX1_hangAlong_145 : decode cX1_hangAlong 145 = .ok (.return_, 1) := by decide +kernel
set_option maxRecDepth 20000 in
theorem ggX1_cutEnds_X3_size : GoodIn wsX1_cutEnds wsX3_size := goodIn_r _ [7, 8, 9, 44, 45, 46, 47] (by decide +kernel) (by decide +kernel)
set_option maxRecDepth 20000 in
theorem gX1_cutEnds_X3_size : GoodIn wsX1_cutEnds (wsV RX1 35 RX3 yX3_size wsX3_size) := goodIn_app (goodIn_of _ (by decide +kernel)) ggX1_cutEnds_X3_size
set_option maxRecDepth 20000 in
theorem ggX1_cutEnds_X5_at : GoodIn wsX1_cutEnds wsX5_at := goodIn_r _ [14, 15, 48] (by decide +kernel) (by decide +kernel)
set_option maxRecDepth 20000 in
theorem gX1_cutEnds_X5_at : GoodIn wsX1_cutEnds (wsV RX1 63 RX5 yX5_at wsX5_at) := goodIn_app (goodIn_of _ (by decide +kernel)) ggX1_cutEnds_X5_at
set_option maxRecDepth 20000 in
theorem ggX1_cutEnds_X1_isEnd : GoodIn wsX1_cutEnds wsX1_isEnd := goodIn_r _ [20, 2, 21, 22, 23, 19, 24, 1, 25, 26, 27, 6, 28, 29, 8, 30, 9, 31, 11, 12, 13, 14, 15, 32, 33, 34, 10, 39, 40, 41, 42, 43, 44, 45, 46, 47, 48] (by decide +kernel) (by decide +kernel)
set_option maxRecDepth 20000 in
theorem gX1_cutEnds_X1_isEnd : GoodIn wsX1_cutEnds (wsV RX1 112 RX1 yX1_isEnd wsX1_isEnd) := goodIn_app (goodIn_of _ (by decide +kernel)) ggX1_cutEnds_X1_isEnd
set_option maxRecDepth 20000 in
theorem ggX1_cutEnds_X5_put : GoodIn wsX1_cutEnds wsX5_put := goodIn_r _ [38, 15, 48] (by decide +kernel) (by decide +kernel)
set_option maxRecDepth 20000 in
theorem gX1_cutEnds_X5_put : GoodIn wsX1_cutEnds (wsV RX1 45 RX5 yX5_put wsX5_put) := goodIn_app (goodIn_of _ (by decide +kernel)) ggX1_cutEnds_X5_put
theorem dX1_cutEnds_0 : decode cX1_cutEnds 0 = .ok (.iconst 0, 1) := by decide +kernel
theorem dX1_cutEnds_1 : decode cX1_cutEnds 1 = .ok (.istore_n 1, 1) := by decide +kernel
theorem dX1_cutEnds_2 : decode cX1_cutEnds 2 = .ok (.iconst 0, 1) := by decide +kernel
theorem dX1_cutEnds_3 : decode cX1_cutEnds 3 = .ok (.istore_n 2, 1) := by decide +kernel
theorem dX1_cutEnds_4 : decode cX1_cutEnds 4 = .ok (.iload_n 2, 1) := by decide +kernel
theorem dX1_cutEnds_5 : decode cX1_cutEnds 5 = .ok (.aload_n 0, 1) := by decide +kernel
theorem dX1_cutEnds_6 : decode cX1_cutEnds 6 = .ok (.getfield 23, 3) := by decide +kernel
theorem dX1_cutEnds_9 : decode cX1_cutEnds 9 = .ok (.invokevirtual 35, 3) := by decide +kernel
theorem dX1_cutEnds_12 : decode cX1_cutEnds 12 = .ok (.if_icmp .ge 75, 3) := by decide +kernel
theorem dX1_cutEnds_15 : decode cX1_cutEnds 15 = .ok (.iconst 0, 1) := by decide +kernel
theorem dX1_cutEnds_16 : decode cX1_cutEnds 16 = .ok (.istore_n 3, 1) := by decide +kernel
theorem dX1_cutEnds_17 : decode cX1_cutEnds 17 = .ok (.iload_n 3, 1) := by decide +kernel
theorem dX1_cutEnds_18 : decode cX1_cutEnds 18 = .ok (.bipush 10, 2) := by decide +kernel
theorem dX1_cutEnds_20 : decode cX1_cutEnds 20 = .ok (.if_icmp .ge 61, 3) := by decide +kernel
theorem dX1_cutEnds_23 : decode cX1_cutEnds 23 = .ok (.iload_n 2, 1) := by decide +kernel
theorem dX1_cutEnds_24 : decode cX1_cutEnds 24 = .ok (.bipush 10, 2) := by decide +kernel
theorem dX1_cutEnds_26 : decode cX1_cutEnds 26 = .ok (.imul, 1) := by decide +kernel
theorem dX1_cutEnds_27 : decode cX1_cutEnds 27 = .ok (.iload_n 3, 1) := by decide +kernel
theorem dX1_cutEnds_28 : decode cX1_cutEnds 28 = .ok (.iadd, 1) := by decide +kernel
theorem dX1_cutEnds_29 : decode cX1_cutEnds 29 = .ok (.istore 4, 2) := by decide +kernel
theorem dX1_cutEnds_31 : decode cX1_cutEnds 31 = .ok (.aload_n 0, 1) := by decide +kernel
theorem dX1_cutEnds_32 : decode cX1_cutEnds 32 = .ok (.getfield 20, 3) := by decide +kernel
theorem dX1_cutEnds_35 : decode cX1_cutEnds 35 = .ok (.iload 4, 2) := by decide +kernel
theorem dX1_cutEnds_37 : decode cX1_cutEnds 37 = .ok (.invokevirtual 63, 3) := by decide +kernel
theorem dX1_cutEnds_40 : decode cX1_cutEnds 40 = .ok (.ifCond .eq 35, 3) := by decide +kernel
theorem dX1_cutEnds_43 : decode cX1_cutEnds 43 = .ok (.aload_n 0, 1) := by decide +kernel
theorem dX1_cutEnds_44 : decode cX1_cutEnds 44 = .ok (.iload_n 2, 1) := by decide +kernel
theorem dX1_cutEnds_45 : decode cX1_cutEnds 45 = .ok (.iload_n 3, 1) := by decide +kernel
theorem dX1_cutEnds_46 : decode cX1_cutEnds 46 = .ok (.iconst 1, 1) := by decide +kernel
theorem dX1_cutEnds_47 : decode cX1_cutEnds 47 = .ok (.iand, 1) := by decide +kernel
theorem dX1_cutEnds_48 : decode cX1_cutEnds 48 = .ok (.aload_n 0, 1) := by decide +kernel
theorem dX1_cutEnds_49 : decode cX1_cutEnds 49 = .ok (.getfield 20, 3) := by decide +kernel
theorem dX1_cutEnds_52 : decode cX1_cutEnds 52 = .ok (.iload 4, 2) := by decide +kernel
theorem dX1_cutEnds_54 : decode cX1_cutEnds 54 = .ok (.invokevirtual 63, 3) := by decide +kernel
theorem dX1_cutEnds_57 : decode cX1_cutEnds 57 = .ok (.invokevirtual 112, 3) := by decide +kernel
theorem dX1_cutEnds_60 : decode cX1_cutEnds 60 = .ok (.ifCond .eq 15, 3) := by decide +kernel
theorem dX1_cutEnds_63 : decode cX1_cutEnds 63 = .ok (.aload_n 0, 1) := by decide +kernel
theorem dX1_cutEnds_64 : decode cX1_cutEnds 64 = .ok (.getfield 20, 3) := by decide +kernel
theorem dX1_cutEnds_67 : decode cX1_cutEnds 67 = .ok (.iload 4, 2) := by decide +kernel
theorem dX1_cutEnds_69 : decode cX1_cutEnds 69 = .ok (.iconst 0, 1) := by decide +kernel
theorem dX1_cutEnds_70 : decode cX1_cutEnds 70 = .ok (.invokevirtual 45, 3) := by decide +kernel
theorem dX1_cutEnds_73 : decode cX1_cutEnds 73 = .ok (.iconst 1, 1) := by decide +kernel
theorem dX1_cutEnds_74 : decode cX1_cutEnds 74 = .ok (.istore_n 1, 1) := by decide +kernel
theorem dX1_cutEnds_75 : decode cX1_cutEnds 75 = .ok (.iinc 3 1, 3) := by decide +kernel
theorem dX1_cutEnds_78 : decode cX1_cutEnds 78 = .ok (.goto (-61), 3) := by decide +kernel
theorem dX1_cutEnds_81 : decode cX1_cutEnds 81 = .ok (.iinc 2 1, 3) := by decide +kernel
theorem dX1_cutEnds_84 : decode cX1_cutEnds 84 = .ok (.goto (-80), 3) := by decide +kernel
theorem dX1_cutEnds_87 : decode cX1_cutEnds 87 = .ok (.iload_n 1, 1) := by decide +kernel
theorem dX1_cutEnds_88 : decode cX1_cutEnds 88 = .ok (.ireturn, 1) := by decide +kernel
set_option maxRecDepth 20000 in
theorem ggX1_isEnd_X1_nextBuffer : GoodIn wsX1_isEnd wsX1_nextBuffer := goodIn_r _ [6, 7, 8, 9, 10, 11, 12, 13, 14, 15, 16, 17, 18, 19, 20, 21, 22, 23, 24, 25, 27, 28, 29, 30, 31, 32, 33, 34, 35, 36] (by decide +kernel) (by decide +kernel)
set_option maxRecDepth 20000 in
theorem gX1_isEnd_X1_nextBuffer : GoodIn wsX1_isEnd (wsV RX1 72 RX1 yX1_nextBuffer wsX1_nextBuffer) := goodIn_app (goodIn_of _ (by decide +kernel)) ggX1_isEnd_X1_nextBuffer
set_option maxRecDepth 20000 in
theorem ggX1_isEnd_X5_at : GoodIn wsX1_isEnd wsX5_at := goodIn_r _ [21, 22, 36] (by decide +kernel) (by decide +kernel)
set_option maxRecDepth 20000 in
theorem gX1_isEnd_X5_at : GoodIn wsX1_isEnd (wsV RX1 63 RX5 yX5_at wsX5_at) := goodIn_app (goodIn_of _ (by decide +kernel)) ggX1_isEnd_X5_at
theorem dX1_isEnd_0 : decode cX1_isEnd 0 = .ok (.iconst 0, 1) := by decide +kernel
theorem dX1_isEnd_1 : decode cX1_isEnd 1 = .ok (.istore 4, 2) := by decide +kernel
theorem dX1_isEnd_3 : decode cX1_isEnd 3 = .ok (.iload 4, 2) := by decide +kernel
theorem dX1_isEnd_5 : decode cX1_isEnd 5 = .ok (.iconst 4, 1) := by decide +kernel
theorem dX1_isEnd_6 : decode cX1_isEnd 6 = .ok (.if_icmp .ge 48, 3) := by decide +kernel
theorem dX1_isEnd_9 : decode cX1_isEnd 9 = .ok (.iload_n 3, 1) := by decide +kernel
theorem dX1_isEnd_10 : decode cX1_isEnd 10 = .ok (.iload 4, 2) := by decide +kernel
theorem dX1_isEnd_12 : decode cX1_isEnd 12 = .ok (.ishr, 1) := by decide +kernel
theorem dX1_isEnd_13 : decode cX1_isEnd 13 = .ok (.iconst 1, 1) := by decide +kernel
theorem dX1_isEnd_14 : decode cX1_isEnd 14 = .ok (.iand, 1) := by decide +kernel
theorem dX1_isEnd_15 : decode cX1_isEnd 15 = .ok (.ifCond .eq 33, 3) := by decide +kernel
theorem dX1_isEnd_18 : decode cX1_isEnd 18 = .ok (.aload_n 0, 1) := by decide +kernel
theorem dX1_isEnd_19 : decode cX1_isEnd 19 = .ok (.iload_n 1, 1) := by decide +kernel
theorem dX1_isEnd_20 : decode cX1_isEnd 20 = .ok (.iload 4, 2) := by decide +kernel
theorem dX1_isEnd_22 : decode cX1_isEnd 22 = .ok (.iload_n 2, 1) := by decide +kernel
theorem dX1_isEnd_23 : decode cX1_isEnd 23 = .ok (.invokevirtual 72, 3) := by decide +kernel
theorem dX1_isEnd_26 : decode cX1_isEnd 26 = .ok (.istore 5, 2) := by decide +kernel
theorem dX1_isEnd_28 : decode cX1_isEnd 28 = .ok (.iload 5, 2) := by decide +kernel
theorem dX1_isEnd_30 : decode cX1_isEnd 30 = .ok (.iconst (-1), 1) := by decide +kernel
theorem dX1_isEnd_31 : decode cX1_isEnd 31 = .ok (.if_icmp .eq 17, 3) := by decide +kernel
theorem dX1_isEnd_34 : decode cX1_isEnd 34 = .ok (.aload_n 0, 1) := by decide +kernel
theorem dX1_isEnd_35 : decode cX1_isEnd 35 = .ok (.getfield 20, 3) := by decide +kernel
theorem dX1_isEnd_38 : decode cX1_isEnd 38 = .ok (.iload 5, 2) := by decide +kernel
theorem dX1_isEnd_40 : decode cX1_isEnd 40 = .ok (.invokevirtual 63, 3) := by decide +kernel
theorem dX1_isEnd_43 : decode cX1_isEnd 43 = .ok (.ifCond .eq 5, 3) := by decide +kernel
theorem dX1_isEnd_46 : decode cX1_isEnd 46 = .ok (.iconst 0, 1) := by decide +kernel
theorem dX1_isEnd_47 : decode cX1_isEnd 47 = .ok (.ireturn, 1) := by decide +kernel
theorem dX1_isEnd_48 : decode cX1_isEnd 48 = .ok (.iinc 4 1, 3) := by decide +kernel
theorem dX1_isEnd_51 : decode cX1_isEnd 51 = .ok (.goto (-48), 3) := by decide +kernel
theorem dX1_isEnd_54 : decode cX1_isEnd 54 = .ok (.iconst 1, 1) := by decide +kernel
theorem dX1_isEnd_55 : decode cX1_isEnd 55 = .ok (.ireturn, 1) := by decide +kernel
set_option maxRecDepth 20000 in
theorem ggX1_nextBuffer_X3_behind : GoodIn wsX1_nextBuffer wsX3_behind := goodIn_r _ [6, 7, 8, 9, 10, 11, 12, 13, 14, 15, 16, 25, 26, 27, 28, 29] (by decide +kernel) (by decide +kernel)
set_option maxRecDepth 20000 in
theorem gX1_nextBuffer_X3_behind : GoodIn wsX1_nextBuffer (wsV RX1 108 RX3 yX3_behind wsX3_behind) := goodIn_app (goodIn_of _ (by decide +kernel)) ggX1_nextBuffer_X3_behind
set_option maxRecDepth 20000 in
theorem ggX1_nextBuffer_X7_bufferOf : GoodIn wsX1_nextBuffer wsX7_bufferOf := goodIn_r _ [19] (by decide +kernel) (by decide +kernel)
set_option maxRecDepth 20000 in
theorem gX1_nextBuffer_X7_bufferOf_n96 : GoodIn wsX1_nextBuffer (wsX7_bufferOf) := ggX1_nextBuffer_X7_bufferOf
theorem dX1_nextBuffer_0 : decode cX1_nextBuffer 0 = .ok (.aload_n 0, 1) := by decide +kernel
theorem dX1_nextBuffer_1 : decode cX1_nextBuffer 1 = .ok (.getfield 23, 3) := by decide +kernel
theorem dX1_nextBuffer_4 : decode cX1_nextBuffer 4 = .ok (.iload_n 1, 1) := by decide +kernel
theorem dX1_nextBuffer_5 : decode cX1_nextBuffer 5 = .ok (.iload_n 2, 1) := by decide +kernel
theorem dX1_nextBuffer_6 : decode cX1_nextBuffer 6 = .ok (.invokevirtual 108, 3) := by decide +kernel
theorem dX1_nextBuffer_9 : decode cX1_nextBuffer 9 = .ok (.istore 4, 2) := by decide +kernel
theorem dX1_nextBuffer_11 : decode cX1_nextBuffer 11 = .ok (.iload 4, 2) := by decide +kernel
theorem dX1_nextBuffer_13 : decode cX1_nextBuffer 13 = .ok (.iconst (-1), 1) := by decide +kernel
theorem dX1_nextBuffer_14 : decode cX1_nextBuffer 14 = .ok (.if_icmp .ne 7, 3) := by decide +kernel
theorem dX1_nextBuffer_17 : decode cX1_nextBuffer 17 = .ok (.iconst (-1), 1) := by decide +kernel
theorem dX1_nextBuffer_18 : decode cX1_nextBuffer 18 = .ok (.goto 10, 3) := by decide +kernel
theorem dX1_nextBuffer_21 : decode cX1_nextBuffer 21 = .ok (.iload 4, 2) := by decide +kernel
theorem dX1_nextBuffer_23 : decode cX1_nextBuffer 23 = .ok (.iload_n 2, 1) := by decide +kernel
theorem dX1_nextBuffer_24 : decode cX1_nextBuffer 24 = .ok (.iload_n 3, 1) := by decide +kernel
theorem dX1_nextBuffer_25 : decode cX1_nextBuffer 25 = .ok (.invokestatic 96, 3) := by decide +kernel
theorem dX1_nextBuffer_28 : decode cX1_nextBuffer 28 = .ok (.ireturn, 1) := by decide +kernel
set_option maxRecDepth 20000 in
theorem ggX2_init_X5_init : GoodIn wsX2_init wsX5_init := goodIn_r _ [11, 12, 2, 3, 13, 14, 15] (by decide +kernel) (by decide +kernel)
set_option maxRecDepth 20000 in
theorem gX2_init_X5_init : GoodIn wsX2_init (wsX5_init) := ggX2_init_X5_init
theorem dX2_init_0 : decode cX2_init 0 = .ok (.aload_n 0, 1) := by decide +kernel
theorem dX2_init_1 : decode cX2_init 1 = .ok (.invokespecial 3, 3) := by decide +kernel
theorem dX2_init_4 : decode cX2_init 4 = .ok (.aload_n 0, 1) := by decide +kernel
theorem dX2_init_5 : decode cX2_init 5 = .ok (.new 9, 3) := by decide +kernel
theorem dX2_init_8 : decode cX2_init 8 = .ok (.dup, 1) := by decide +kernel
theorem dX2_init_9 : decode cX2_init 9 = .ok (.sipush 160, 3) := by decide +kernel
theorem dX2_init_12 : decode cX2_init 12 = .ok (.invokespecial 11, 3) := by decide +kernel
theorem dX2_init_15 : decode cX2_init 15 = .ok (.putfield 14, 3) := by decide +kernel
theorem dX2_init_18 : decode cX2_init 18 = .ok (.aload_n 0, 1) := by decide +kernel
theorem dX2_init_19 : decode cX2_init 19 = .ok (.new 9, 3) := by decide +kernel
theorem dX2_init_22 : decode cX2_init 22 = .ok (.dup, 1) := by decide +kernel
theorem dX2_init_23 : decode cX2_init 23 = .ok (.sipush 640, 3) := by decide +kernel
theorem dX2_init_26 : decode cX2_init 26 = .ok (.invokespecial 11, 3) := by decide +kernel
theorem dX2_init_29 : decode cX2_init 29 = .ok (.putfield 20, 3) := by decide +kernel
theorem dX2_init_32 : decode cX2_init 32 = .ok (.return_, 1) := by decide +kernel
set_option maxRecDepth 20000 in
theorem ggX2_fill_X5_fill : GoodIn wsX2_fill wsX5_fill := goodIn_r _ [9, 10, 15] (by decide +kernel) (by decide +kernel)
set_option maxRecDepth 20000 in
theorem gX2_fill_X5_fill : GoodIn wsX2_fill (wsV RX2 27 RX5 yX5_fill wsX5_fill) := goodIn_app (goodIn_of _ (by decide +kernel)) ggX2_fill_X5_fill
theorem dX2_fill_0 : decode cX2_fill 0 = .ok (.aload_n 0, 1) := by decide +kernel
theorem dX2_fill_1 : decode cX2_fill 1 = .ok (.iload_n 2, 1) := by decide +kernel
theorem dX2_fill_2 : decode cX2_fill 2 = .ok (.putfield 23, 3) := by decide +kernel
theorem dX2_fill_5 : decode cX2_fill 5 = .ok (.aload_n 0, 1) := by decide +kernel
theorem dX2_fill_6 : decode cX2_fill 6 = .ok (.getfield 14, 3) := by decide +kernel
theorem dX2_fill_9 : decode cX2_fill 9 = .ok (.iload_n 1, 1) := by decide +kernel
theorem dX2_fill_10 : decode cX2_fill 10 = .ok (.invokevirtual 27, 3) := by decide +kernel
theorem dX2_fill_13 : decode cX2_fill 13 = .ok (.aload_n 0, 1) := by decide +kernel
theorem dX2_fill_14 : decode cX2_fill 14 = .ok (.getfield 20, 3) := by decide +kernel
theorem dX2_fill_17 : decode cX2_fill 17 = .ok (.iconst 0, 1) := by decide +kernel
theorem dX2_fill_18 : decode cX2_fill 18 = .ok (.invokevirtual 27, 3) := by decide +kernel
theorem dX2_fill_21 : decode cX2_fill 21 = .ok (.aload_n 0, 1) := by decide +kernel
theorem dX2_fill_22 : decode cX2_fill 22 = .ok (.iconst 0, 1) := by decide +kernel
theorem dX2_fill_23 : decode cX2_fill 23 = .ok (.putfield 30, 3) := by decide +kernel
theorem dX2_fill_26 : decode cX2_fill 26 = .ok (.return_, 1) := by decide +kernel
set_option maxRecDepth 20000 in
theorem ggX2_there_X5_at : GoodIn wsX2_there wsX5_at := goodIn_r _ [6, 7, 12] (by decide +kernel) (by decide +kernel)
set_option maxRecDepth 20000 in
theorem gX2_there_X5_at : GoodIn wsX2_there (wsV RX2 33 RX5 yX5_at wsX5_at) := goodIn_app (goodIn_of _ (by decide +kernel)) ggX2_there_X5_at
theorem dX2_there_0 : decode cX2_there 0 = .ok (.aload_n 0, 1) := by decide +kernel
theorem dX2_there_1 : decode cX2_there 1 = .ok (.getfield 14, 3) := by decide +kernel
theorem dX2_there_4 : decode cX2_there 4 = .ok (.iload_n 1, 1) := by decide +kernel
theorem dX2_there_5 : decode cX2_there 5 = .ok (.invokevirtual 33, 3) := by decide +kernel
theorem dX2_there_8 : decode cX2_there 8 = .ok (.ireturn, 1) := by decide +kernel
set_option maxRecDepth 20000 in
theorem ggX2_take_X5_add : GoodIn wsX2_take wsX5_add := goodIn_r _ [6, 7, 8, 9, 5, 10, 11, 12, 13, 14, 15, 20] (by decide +kernel) (by decide +kernel)
set_option maxRecDepth 20000 in
theorem gX2_take_X5_add : GoodIn wsX2_take (wsV RX2 37 RX5 yX5_add wsX5_add) := goodIn_app (goodIn_of _ (by decide +kernel)) ggX2_take_X5_add
theorem dX2_take_0 : decode cX2_take 0 = .ok (.aload_n 0, 1) := by decide +kernel
theorem dX2_take_1 : decode cX2_take 1 = .ok (.getfield 14, 3) := by decide +kernel
theorem dX2_take_4 : decode cX2_take 4 = .ok (.iload_n 1, 1) := by decide +kernel
theorem dX2_take_5 : decode cX2_take 5 = .ok (.iconst (-1), 1) := by decide +kernel
theorem dX2_take_6 : decode cX2_take 6 = .ok (.invokevirtual 37, 3) := by decide +kernel
theorem dX2_take_9 : decode cX2_take 9 = .ok (.return_, 1) := by decide +kernel
set_option maxRecDepth 20000 in
theorem ggX2_giveBack_X2_slotOf : GoodIn wsX2_giveBack wsX2_slotOf := goodIn_r _ [7] (by decide +kernel) (by decide +kernel)
set_option maxRecDepth 20000 in
theorem gX2_giveBack_X2_slotOf : GoodIn wsX2_giveBack (va_wsS RX2 41 yX2_slotOf wsX2_slotOf) := goodIn_app (goodIn_of _ (by decide +kernel)) ggX2_giveBack_X2_slotOf
set_option maxRecDepth 20000 in
theorem ggX2_giveBack_X5_add : GoodIn wsX2_giveBack wsX5_add := goodIn_r _ [12, 13, 14, 15, 11, 16, 17, 18, 19, 20, 21, 26] (by decide +kernel) (by decide +kernel)
set_option maxRecDepth 20000 in
theorem gX2_giveBack_X5_add : GoodIn wsX2_giveBack (wsV RX2 37 RX5 yX5_add wsX5_add) := goodIn_app (goodIn_of _ (by decide +kernel)) ggX2_giveBack_X5_add
theorem dX2_giveBack_0 : decode cX2_giveBack 0 = .ok (.aload_n 0, 1) := by decide +kernel
theorem dX2_giveBack_1 : decode cX2_giveBack 1 = .ok (.getfield 20, 3) := by decide +kernel
theorem dX2_giveBack_4 : decode cX2_giveBack 4 = .ok (.iload_n 1, 1) := by decide +kernel
theorem dX2_giveBack_5 : decode cX2_giveBack 5 = .ok (.iload_n 2, 1) := by decide +kernel
theorem dX2_giveBack_6 : decode cX2_giveBack 6 = .ok (.iconst 1, 1) := by decide +kernel
theorem dX2_giveBack_7 : decode cX2_giveBack 7 = .ok (.iadd, 1) := by decide +kernel
theorem dX2_giveBack_8 : decode cX2_giveBack 8 = .ok (.aload_n 0, 1) := by decide +kernel
theorem dX2_giveBack_9 : decode cX2_giveBack 9 = .ok (.getfield 23, 3) := by decide +kernel
theorem dX2_giveBack_12 : decode cX2_giveBack 12 = .ok (.iadd, 1) := by decide +kernel
theorem dX2_giveBack_13 : decode cX2_giveBack 13 = .ok (.invokestatic 41, 3) := by decide +kernel
theorem dX2_giveBack_16 : decode cX2_giveBack 16 = .ok (.iconst 1, 1) := by decide +kernel
theorem dX2_giveBack_17 : decode cX2_giveBack 17 = .ok (.invokevirtual 37, 3) := by decide +kernel
theorem dX2_giveBack_20 : decode cX2_giveBack 20 = .ok (.aload_n 0, 1) := by decide +kernel
theorem dX2_giveBack_21 : decode cX2_giveBack 21 = .ok (.dup, 1) := by decide +kernel
theorem dX2_giveBack_22 : decode cX2_giveBack 22 = .ok (.getfield 30, 3) := by decide +kernel
theorem dX2_giveBack_25 : decode cX2_giveBack 25 = .ok (.iconst 1, 1) := by decide +kernel
theorem dX2_giveBack_26 : decode cX2_giveBack 26 = .ok (.iadd, 1) := by decide +kernel
theorem dX2_giveBack_27 : decode cX2_giveBack 27 = .ok (.putfield 30, 3) := by decide +kernel
theorem dX2_giveBack_30 : decode cX2_giveBack 30 = .ok (.return_, 1) := by decide +kernel
set_option maxRecDepth 20000 in
theorem ggX2_comeBack_X2_slotOf : GoodIn wsX2_comeBack wsX2_slotOf := goodIn_r _ [7] (by decide +kernel) (by decide +kernel)
set_option maxRecDepth 20000 in
theorem gX2_comeBack_X2_slotOf : GoodIn wsX2_comeBack (va_wsS RX2 41 yX2_slotOf wsX2_slotOf) := goodIn_app (goodIn_of _ (by decide +kernel)) ggX2_comeBack_X2_slotOf
set_option maxRecDepth 20000 in
theorem ggX2_comeBack_X5_at : GoodIn wsX2_comeBack wsX5_at := goodIn_r _ [12, 13, 28] (by decide +kernel) (by decide +kernel)
set_option maxRecDepth 20000 in
theorem gX2_comeBack_X5_at : GoodIn wsX2_comeBack (wsV RX2 33 RX5 yX5_at wsX5_at) := goodIn_app (goodIn_of _ (by decide +kernel)) ggX2_comeBack_X5_at
set_option maxRecDepth 20000 in
theorem ggX2_comeBack_X5_add : GoodIn wsX2_comeBack wsX5_add := goodIn_r _ [17, 18, 9, 10, 11, 12, 13, 19, 20, 21, 22, 28] (by decide +kernel) (by decide +kernel)
set_option maxRecDepth 20000 in
theorem gX2_comeBack_X5_add : GoodIn wsX2_comeBack (wsV RX2 37 RX5 yX5_add wsX5_add) := goodIn_app (goodIn_of _ (by decide +kernel)) ggX2_comeBack_X5_add
set_option maxRecDepth 20000 in
theorem ggX2_comeBack_X5_put : GoodIn wsX2_comeBack wsX5_put := goodIn_r _ [22, 13, 28] (by decide +kernel) (by decide +kernel)
set_option maxRecDepth 20000 in
theorem gX2_comeBack_X5_put : GoodIn wsX2_comeBack (wsV RX2 45 RX5 yX5_put wsX5_put) := goodIn_app (goodIn_of _ (by decide +kernel)) ggX2_comeBack_X5_put
theorem dX2_comeBack_0 : decode cX2_comeBack 0 = .ok (.aload_n 0, 1) := by decide +kernel
theorem dX2_comeBack_1 : decode cX2_comeBack 1 = .ok (.getfield 30, 3) := by decide +kernel
theorem dX2_comeBack_4 : decode cX2_comeBack 4 = .ok (.ifCond .ne 4, 3) := by decide +kernel
theorem dX2_comeBack_7 : decode cX2_comeBack 7 = .ok (.return_, 1) := by decide +kernel
theorem dX2_comeBack_8 : decode cX2_comeBack 8 = .ok (.iconst 0, 1) := by decide +kernel
theorem dX2_comeBack_9 : decode cX2_comeBack 9 = .ok (.istore_n 2, 1) := by decide +kernel
theorem dX2_comeBack_10 : decode cX2_comeBack 10 = .ok (.iload_n 2, 1) := by decide +kernel
theorem dX2_comeBack_11 : decode cX2_comeBack 11 = .ok (.sipush 160, 3) := by decide +kernel
theorem dX2_comeBack_14 : decode cX2_comeBack 14 = .ok (.if_icmp .ge 55, 3) := by decide +kernel
theorem dX2_comeBack_17 : decode cX2_comeBack 17 = .ok (.iload_n 2, 1) := by decide +kernel
theorem dX2_comeBack_18 : decode cX2_comeBack 18 = .ok (.iload_n 1, 1) := by decide +kernel
theorem dX2_comeBack_19 : decode cX2_comeBack 19 = .ok (.invokestatic 41, 3) := by decide +kernel
theorem dX2_comeBack_22 : decode cX2_comeBack 22 = .ok (.istore_n 3, 1) := by decide +kernel
theorem dX2_comeBack_23 : decode cX2_comeBack 23 = .ok (.aload_n 0, 1) := by decide +kernel
theorem dX2_comeBack_24 : decode cX2_comeBack 24 = .ok (.getfield 20, 3) := by decide +kernel
theorem dX2_comeBack_27 : decode cX2_comeBack 27 = .ok (.iload_n 3, 1) := by decide +kernel
theorem dX2_comeBack_28 : decode cX2_comeBack 28 = .ok (.invokevirtual 33, 3) := by decide +kernel
theorem dX2_comeBack_31 : decode cX2_comeBack 31 = .ok (.istore 4, 2) := by decide +kernel
theorem dX2_comeBack_33 : decode cX2_comeBack 33 = .ok (.aload_n 0, 1) := by decide +kernel
theorem dX2_comeBack_34 : decode cX2_comeBack 34 = .ok (.getfield 14, 3) := by decide +kernel
theorem dX2_comeBack_37 : decode cX2_comeBack 37 = .ok (.iload_n 2, 1) := by decide +kernel
theorem dX2_comeBack_38 : decode cX2_comeBack 38 = .ok (.iload 4, 2) := by decide +kernel
theorem dX2_comeBack_40 : decode cX2_comeBack 40 = .ok (.invokevirtual 37, 3) := by decide +kernel
theorem dX2_comeBack_43 : decode cX2_comeBack 43 = .ok (.aload_n 0, 1) := by decide +kernel
theorem dX2_comeBack_44 : decode cX2_comeBack 44 = .ok (.getfield 20, 3) := by decide +kernel
theorem dX2_comeBack_47 : decode cX2_comeBack 47 = .ok (.iload_n 3, 1) := by decide +kernel
theorem dX2_comeBack_48 : decode cX2_comeBack 48 = .ok (.iconst 0, 1) := by decide +kernel
theorem dX2_comeBack_49 : decode cX2_comeBack 49 = .ok (.invokevirtual 45, 3) := by decide +kernel
theorem dX2_comeBack_52 : decode cX2_comeBack 52 = .ok (.aload_n 0, 1) := by decide +kernel
theorem dX2_comeBack_53 : decode cX2_comeBack 53 = .ok (.dup, 1) := by decide +kernel
theorem dX2_comeBack_54 : decode cX2_comeBack 54 = .ok (.getfield 30, 3) := by decide +kernel
theorem dX2_comeBack_57 : decode cX2_comeBack 57 = .ok (.iload 4, 2) := by decide +kernel
theorem dX2_comeBack_59 : decode cX2_comeBack 59 = .ok (.isub, 1) := by decide +kernel
theorem dX2_comeBack_60 : decode cX2_comeBack 60 = .ok (.putfield 30, 3) := by decide +kernel
theorem dX2_comeBack_63 : decode cX2_comeBack 63 = .ok (.iinc 2 1, 3) := by decide +kernel
theorem dX2_comeBack_66 : decode cX2_comeBack 66 = .ok (.goto (-56), 3) := by decide +kernel
theorem dX2_comeBack_69 : decode cX2_comeBack 69 = .ok (.return_, 1) := by decide +kernel
set_option maxRecDepth 20000 in
theorem ggX2_settle_X2_slotOf : GoodIn wsX2_settle wsX2_slotOf := goodIn_r _ [6] (by decide +kernel) (by decide +kernel)
set_option maxRecDepth 20000 in
theorem gX2_settle_X2_slotOf : GoodIn wsX2_settle (va_wsS RX2 41 yX2_slotOf wsX2_slotOf) := goodIn_app (goodIn_of _ (by decide +kernel)) ggX2_settle_X2_slotOf
set_option maxRecDepth 20000 in
theorem ggX2_settle_X5_at : GoodIn wsX2_settle wsX5_at := goodIn_r _ [11, 12, 21] (by decide +kernel) (by decide +kernel)
set_option maxRecDepth 20000 in
theorem gX2_settle_X5_at : GoodIn wsX2_settle (wsV RX2 33 RX5 yX5_at wsX5_at) := goodIn_app (goodIn_of _ (by decide +kernel)) ggX2_settle_X5_at
set_option maxRecDepth 20000 in
theorem ggX2_settle_X5_put : GoodIn wsX2_settle wsX5_put := goodIn_r _ [16, 12, 21] (by decide +kernel) (by decide +kernel)
set_option maxRecDepth 20000 in
theorem gX2_settle_X5_put : GoodIn wsX2_settle (wsV RX2 45 RX5 yX5_put wsX5_put) := goodIn_app (goodIn_of _ (by decide +kernel)) ggX2_settle_X5_put
theorem dX2_settle_0 : decode cX2_settle 0 = .ok (.iload_n 2, 1) := by decide +kernel
theorem dX2_settle_1 : decode cX2_settle 1 = .ok (.istore_n 3, 1) := by decide +kernel
theorem dX2_settle_2 : decode cX2_settle 2 = .ok (.iconst 0, 1) := by decide +kernel
theorem dX2_settle_3 : decode cX2_settle 3 = .ok (.istore 4, 2) := by decide +kernel
theorem dX2_settle_5 : decode cX2_settle 5 = .ok (.iload 4, 2) := by decide +kernel
theorem dX2_settle_7 : decode cX2_settle 7 = .ok (.iconst 4, 1) := by decide +kernel
theorem dX2_settle_8 : decode cX2_settle 8 = .ok (.if_icmp .ge 25, 3) := by decide +kernel
theorem dX2_settle_11 : decode cX2_settle 11 = .ok (.iload_n 3, 1) := by decide +kernel
theorem dX2_settle_12 : decode cX2_settle 12 = .ok (.aload_n 0, 1) := by decide +kernel
theorem dX2_settle_13 : decode cX2_settle 13 = .ok (.getfield 20, 3) := by decide +kernel
theorem dX2_settle_16 : decode cX2_settle 16 = .ok (.iload_n 1, 1) := by decide +kernel
theorem dX2_settle_17 : decode cX2_settle 17 = .ok (.iload 4, 2) := by decide +kernel
theorem dX2_settle_19 : decode cX2_settle 19 = .ok (.invokestatic 41, 3) := by decide +kernel
theorem dX2_settle_22 : decode cX2_settle 22 = .ok (.invokevirtual 33, 3) := by decide +kernel
theorem dX2_settle_25 : decode cX2_settle 25 = .ok (.isub, 1) := by decide +kernel
theorem dX2_settle_26 : decode cX2_settle 26 = .ok (.istore_n 3, 1) := by decide +kernel
theorem dX2_settle_27 : decode cX2_settle 27 = .ok (.iinc 4 1, 3) := by decide +kernel
theorem dX2_settle_30 : decode cX2_settle 30 = .ok (.goto (-25), 3) := by decide +kernel
theorem dX2_settle_33 : decode cX2_settle 33 = .ok (.iload_n 3, 1) := by decide +kernel
theorem dX2_settle_34 : decode cX2_settle 34 = .ok (.aload_n 0, 1) := by decide +kernel
theorem dX2_settle_35 : decode cX2_settle 35 = .ok (.getfield 14, 3) := by decide +kernel
theorem dX2_settle_38 : decode cX2_settle 38 = .ok (.iload_n 1, 1) := by decide +kernel
theorem dX2_settle_39 : decode cX2_settle 39 = .ok (.invokevirtual 33, 3) := by decide +kernel
theorem dX2_settle_42 : decode cX2_settle 42 = .ok (.isub, 1) := by decide +kernel
theorem dX2_settle_43 : decode cX2_settle 43 = .ok (.istore 4, 2) := by decide +kernel
theorem dX2_settle_45 : decode cX2_settle 45 = .ok (.aload_n 0, 1) := by decide +kernel
theorem dX2_settle_46 : decode cX2_settle 46 = .ok (.getfield 14, 3) := by decide +kernel
theorem dX2_settle_49 : decode cX2_settle 49 = .ok (.iload_n 1, 1) := by decide +kernel
theorem dX2_settle_50 : decode cX2_settle 50 = .ok (.iload_n 3, 1) := by decide +kernel
theorem dX2_settle_51 : decode cX2_settle 51 = .ok (.invokevirtual 45, 3) := by decide +kernel
theorem dX2_settle_54 : decode cX2_settle 54 = .ok (.iload 4, 2) := by decide +kernel
theorem dX2_settle_56 : decode cX2_settle 56 = .ok (.ireturn, 1) := by decide +kernel
theorem dX2_slotOf_0 : decode cX2_slotOf 0 = .ok (.iload_n 0, 1) := by decide +kernel
theorem dX2_slotOf_1 : decode cX2_slotOf 1 = .ok (.iconst 4, 1) := by decide +kernel
theorem dX2_slotOf_2 : decode cX2_slotOf 2 = .ok (.imul, 1) := by decide +kernel
theorem dX2_slotOf_3 : decode cX2_slotOf 3 = .ok (.iload_n 1, 1) := by decide +kernel
theorem dX2_slotOf_4 : decode cX2_slotOf 4 = .ok (.iconst 3, 1) := by decide +kernel
theorem dX2_slotOf_5 : decode cX2_slotOf 5 = .ok (.iand, 1) := by decide +kernel
theorem dX2_slotOf_6 : decode cX2_slotOf 6 = .ok (.iadd, 1) := by decide +kernel
theorem dX2_slotOf_7 : decode cX2_slotOf 7 = .ok (.ireturn, 1) := by decide +kernel
set_option maxRecDepth 20000 in
theorem ggX3_init_X5_init : GoodIn wsX3_init wsX5_init := goodIn_r _ [11, 12, 2, 3, 13, 14, 15] (by decide +kernel) (by decide +kernel)
set_option maxRecDepth 20000 in
theorem gX3_init_X5_init : GoodIn wsX3_init (wsX5_init) := ggX3_init_X5_init
theorem dX3_init_0 : decode cX3_init 0 = .ok (.aload_n 0, 1) := by decide +kernel
theorem dX3_init_1 : decode cX3_init 1 = .ok (.invokespecial 3, 3) := by decide +kernel
theorem dX3_init_4 : decode cX3_init 4 = .ok (.aload_n 0, 1) := by decide +kernel
theorem dX3_init_5 : decode cX3_init 5 = .ok (.new 9, 3) := by decide +kernel
theorem dX3_init_8 : decode cX3_init 8 = .ok (.dup, 1) := by decide +kernel
theorem dX3_init_9 : decode cX3_init 9 = .ok (.bipush 16, 2) := by decide +kernel
theorem dX3_init_11 : decode cX3_init 11 = .ok (.invokespecial 11, 3) := by decide +kernel
theorem dX3_init_14 : decode cX3_init 14 = .ok (.putfield 14, 3) := by decide +kernel
theorem dX3_init_17 : decode cX3_init 17 = .ok (.aload_n 0, 1) := by decide +kernel
theorem dX3_init_18 : decode cX3_init 18 = .ok (.new 9, 3) := by decide +kernel
theorem dX3_init_21 : decode cX3_init 21 = .ok (.dup, 1) := by decide +kernel
theorem dX3_init_22 : decode cX3_init 22 = .ok (.bipush 16, 2) := by decide +kernel
theorem dX3_init_24 : decode cX3_init 24 = .ok (.invokespecial 11, 3) := by decide +kernel
theorem dX3_init_27 : decode cX3_init 27 = .ok (.putfield 20, 3) := by decide +kernel
theorem dX3_init_30 : decode cX3_init 30 = .ok (.return_, 1) := by decide +kernel
set_option maxRecDepth 20000 in
theorem ggX3_lay_X5_put : GoodIn wsX3_lay wsX5_put := goodIn_r _ [9, 10, 15] (by decide +kernel) (by decide +kernel)
set_option maxRecDepth 20000 in
theorem gX3_lay_X5_put : GoodIn wsX3_lay (wsV RX3 30 RX5 yX5_put wsX5_put) := goodIn_app (goodIn_of _ (by decide +kernel)) ggX3_lay_X5_put
theorem dX3_lay_0 : decode cX3_lay 0 = .ok (.aload_n 0, 1) := by decide +kernel
theorem dX3_lay_1 : decode cX3_lay 1 = .ok (.iload_n 1, 1) := by decide +kernel
theorem dX3_lay_2 : decode cX3_lay 2 = .ok (.putfield 23, 3) := by decide +kernel
theorem dX3_lay_5 : decode cX3_lay 5 = .ok (.aload_n 0, 1) := by decide +kernel
theorem dX3_lay_6 : decode cX3_lay 6 = .ok (.iload_n 2, 1) := by decide +kernel
theorem dX3_lay_7 : decode cX3_lay 7 = .ok (.putfield 27, 3) := by decide +kernel
theorem dX3_lay_10 : decode cX3_lay 10 = .ok (.iconst 0, 1) := by decide +kernel
theorem dX3_lay_11 : decode cX3_lay 11 = .ok (.istore_n 3, 1) := by decide +kernel
theorem dX3_lay_12 : decode cX3_lay 12 = .ok (.iload_n 3, 1) := by decide +kernel
theorem dX3_lay_13 : decode cX3_lay 13 = .ok (.aload_n 0, 1) := by decide +kernel
theorem dX3_lay_14 : decode cX3_lay 14 = .ok (.getfield 27, 3) := by decide +kernel
theorem dX3_lay_17 : decode cX3_lay 17 = .ok (.if_icmp .ge 62, 3) := by decide +kernel
theorem dX3_lay_20 : decode cX3_lay 20 = .ok (.iconst 0, 1) := by decide +kernel
theorem dX3_lay_21 : decode cX3_lay 21 = .ok (.istore 4, 2) := by decide +kernel
theorem dX3_lay_23 : decode cX3_lay 23 = .ok (.iload 4, 2) := by decide +kernel
theorem dX3_lay_25 : decode cX3_lay 25 = .ok (.aload_n 0, 1) := by decide +kernel
theorem dX3_lay_26 : decode cX3_lay 26 = .ok (.getfield 23, 3) := by decide +kernel
theorem dX3_lay_29 : decode cX3_lay 29 = .ok (.if_icmp .ge 44, 3) := by decide +kernel
theorem dX3_lay_32 : decode cX3_lay 32 = .ok (.aload_n 0, 1) := by decide +kernel
theorem dX3_lay_33 : decode cX3_lay 33 = .ok (.getfield 14, 3) := by decide +kernel
theorem dX3_lay_36 : decode cX3_lay 36 = .ok (.iload_n 3, 1) := by decide +kernel
theorem dX3_lay_37 : decode cX3_lay 37 = .ok (.aload_n 0, 1) := by decide +kernel
theorem dX3_lay_38 : decode cX3_lay 38 = .ok (.getfield 23, 3) := by decide +kernel
theorem dX3_lay_41 : decode cX3_lay 41 = .ok (.imul, 1) := by decide +kernel
theorem dX3_lay_42 : decode cX3_lay 42 = .ok (.iload 4, 2) := by decide +kernel
theorem dX3_lay_44 : decode cX3_lay 44 = .ok (.iadd, 1) := by decide +kernel
theorem dX3_lay_45 : decode cX3_lay 45 = .ok (.iload 4, 2) := by decide +kernel
theorem dX3_lay_47 : decode cX3_lay 47 = .ok (.invokevirtual 30, 3) := by decide +kernel
theorem dX3_lay_50 : decode cX3_lay 50 = .ok (.aload_n 0, 1) := by decide +kernel
theorem dX3_lay_51 : decode cX3_lay 51 = .ok (.getfield 20, 3) := by decide +kernel
theorem dX3_lay_54 : decode cX3_lay 54 = .ok (.iload_n 3, 1) := by decide +kernel
theorem dX3_lay_55 : decode cX3_lay 55 = .ok (.aload_n 0, 1) := by decide +kernel
theorem dX3_lay_56 : decode cX3_lay 56 = .ok (.getfield 23, 3) := by decide +kernel
theorem dX3_lay_59 : decode cX3_lay 59 = .ok (.imul, 1) := by decide +kernel
theorem dX3_lay_60 : decode cX3_lay 60 = .ok (.iload 4, 2) := by decide +kernel
theorem dX3_lay_62 : decode cX3_lay 62 = .ok (.iadd, 1) := by decide +kernel
theorem dX3_lay_63 : decode cX3_lay 63 = .ok (.iload_n 3, 1) := by decide +kernel
theorem dX3_lay_64 : decode cX3_lay 64 = .ok (.invokevirtual 30, 3) := by decide +kernel
theorem dX3_lay_67 : decode cX3_lay 67 = .ok (.iinc 4 1, 3) := by decide +kernel
theorem dX3_lay_70 : decode cX3_lay 70 = .ok (.goto (-47), 3) := by decide +kernel
theorem dX3_lay_73 : decode cX3_lay 73 = .ok (.iinc 3 1, 3) := by decide +kernel
theorem dX3_lay_76 : decode cX3_lay 76 = .ok (.goto (-64), 3) := by decide +kernel
theorem dX3_lay_79 : decode cX3_lay 79 = .ok (.return_, 1) := by decide +kernel
theorem dX3_size_0 : decode cX3_size 0 = .ok (.aload_n 0, 1) := by decide +kernel
theorem dX3_size_1 : decode cX3_size 1 = .ok (.getfield 23, 3) := by decide +kernel
theorem dX3_size_4 : decode cX3_size 4 = .ok (.aload_n 0, 1) := by decide +kernel
theorem dX3_size_5 : decode cX3_size 5 = .ok (.getfield 27, 3) := by decide +kernel
theorem dX3_size_8 : decode cX3_size 8 = .ok (.imul, 1) := by decide +kernel
theorem dX3_size_9 : decode cX3_size 9 = .ok (.ireturn, 1) := by decide +kernel
set_option maxRecDepth 20000 in
theorem ggX3_has_X3_size : GoodIn wsX3_has wsX3_size := goodIn_r _ [5, 6, 7, 8, 9, 10, 11] (by decide +kernel) (by decide +kernel)
set_option maxRecDepth 20000 in
theorem gX3_has_X3_size : GoodIn wsX3_has (wsV RX3 34 RX3 yX3_size wsX3_size) := goodIn_app (goodIn_of _ (by decide +kernel)) ggX3_has_X3_size
theorem dX3_has_0 : decode cX3_has 0 = .ok (.iload_n 1, 1) := by decide +kernel
theorem dX3_has_1 : decode cX3_has 1 = .ok (.ifCond .lt 15, 3) := by decide +kernel
theorem dX3_has_4 : decode cX3_has 4 = .ok (.iload_n 1, 1) := by decide +kernel
theorem dX3_has_5 : decode cX3_has 5 = .ok (.aload_n 0, 1) := by decide +kernel
theorem dX3_has_6 : decode cX3_has 6 = .ok (.invokevirtual 34, 3) := by decide +kernel
theorem dX3_has_9 : decode cX3_has 9 = .ok (.if_icmp .ge 7, 3) := by decide +kernel
theorem dX3_has_12 : decode cX3_has 12 = .ok (.iconst 1, 1) := by decide +kernel
theorem dX3_has_13 : decode cX3_has 13 = .ok (.goto 4, 3) := by decide +kernel
theorem dX3_has_16 : decode cX3_has 16 = .ok (.iconst 0, 1) := by decide +kernel
theorem dX3_has_17 : decode cX3_has 17 = .ok (.ireturn, 1) := by decide +kernel
set_option maxRecDepth 20000 in
theorem ggX3_behind_X5_at : GoodIn wsX3_behind wsX5_at := goodIn_r _ [9, 10, 15] (by decide +kernel) (by decide +kernel)
set_option maxRecDepth 20000 in
theorem gX3_behind_X5_at : GoodIn wsX3_behind (wsV RX3 38 RX5 yX5_at wsX5_at) := goodIn_app (goodIn_of _ (by decide +kernel)) ggX3_behind_X5_at
theorem dX3_behind_0 : decode cX3_behind 0 = .ok (.iload_n 2, 1) := by decide +kernel
theorem dX3_behind_1 : decode cX3_behind 1 = .ok (.tableswitch 125 0 3 #[31, 56, 84, 103], 31) := by decide +kernel
theorem dX3_behind_32 : decode cX3_behind 32 = .ok (.aload_n 0, 1) := by decide +kernel
theorem dX3_behind_33 : decode cX3_behind 33 = .ok (.getfield 14, 3) := by decide +kernel
theorem dX3_behind_36 : decode cX3_behind 36 = .ok (.iload_n 1, 1) := by decide +kernel
theorem dX3_behind_37 : decode cX3_behind 37 = .ok (.invokevirtual 38, 3) := by decide +kernel
theorem dX3_behind_40 : decode cX3_behind 40 = .ok (.iconst 1, 1) := by decide +kernel
theorem dX3_behind_41 : decode cX3_behind 41 = .ok (.iadd, 1) := by decide +kernel
theorem dX3_behind_42 : decode cX3_behind 42 = .ok (.aload_n 0, 1) := by decide +kernel
theorem dX3_behind_43 : decode cX3_behind 43 = .ok (.getfield 23, 3) := by decide +kernel
theorem dX3_behind_46 : decode cX3_behind 46 = .ok (.if_icmp .ge 9, 3) := by decide +kernel
theorem dX3_behind_49 : decode cX3_behind 49 = .ok (.iload_n 1, 1) := by decide +kernel
theorem dX3_behind_50 : decode cX3_behind 50 = .ok (.iconst 1, 1) := by decide +kernel
theorem dX3_behind_51 : decode cX3_behind 51 = .ok (.iadd, 1) := by decide +kernel
theorem dX3_behind_52 : decode cX3_behind 52 = .ok (.goto 4, 3) := by decide +kernel
theorem dX3_behind_55 : decode cX3_behind 55 = .ok (.iconst (-1), 1) := by decide +kernel
theorem dX3_behind_56 : decode cX3_behind 56 = .ok (.ireturn, 1) := by decide +kernel
theorem dX3_behind_57 : decode cX3_behind 57 = .ok (.aload_n 0, 1) := by decide +kernel
theorem dX3_behind_58 : decode cX3_behind 58 = .ok (.getfield 20, 3) := by decide +kernel
theorem dX3_behind_61 : decode cX3_behind 61 = .ok (.iload_n 1, 1) := by decide +kernel
theorem dX3_behind_62 : decode cX3_behind 62 = .ok (.invokevirtual 38, 3) := by decide +kernel
theorem dX3_behind_65 : decode cX3_behind 65 = .ok (.iconst 1, 1) := by decide +kernel
theorem dX3_behind_66 : decode cX3_behind 66 = .ok (.iadd, 1) := by decide +kernel
theorem dX3_behind_67 : decode cX3_behind 67 = .ok (.aload_n 0, 1) := by decide +kernel
theorem dX3_behind_68 : decode cX3_behind 68 = .ok (.getfield 27, 3) := by decide +kernel
theorem dX3_behind_71 : decode cX3_behind 71 = .ok (.if_icmp .ge 12, 3) := by decide +kernel
theorem dX3_behind_74 : decode cX3_behind 74 = .ok (.iload_n 1, 1) := by decide +kernel
theorem dX3_behind_75 : decode cX3_behind 75 = .ok (.aload_n 0, 1) := by decide +kernel
theorem dX3_behind_76 : decode cX3_behind 76 = .ok (.getfield 23, 3) := by decide +kernel
theorem dX3_behind_79 : decode cX3_behind 79 = .ok (.iadd, 1) := by decide +kernel
theorem dX3_behind_80 : decode cX3_behind 80 = .ok (.goto 4, 3) := by decide +kernel
theorem dX3_behind_83 : decode cX3_behind 83 = .ok (.iconst (-1), 1) := by decide +kernel
theorem dX3_behind_84 : decode cX3_behind 84 = .ok (.ireturn, 1) := by decide +kernel
theorem dX3_behind_85 : decode cX3_behind 85 = .ok (.aload_n 0, 1) := by decide +kernel
theorem dX3_behind_86 : decode cX3_behind 86 = .ok (.getfield 14, 3) := by decide +kernel
theorem dX3_behind_89 : decode cX3_behind 89 = .ok (.iload_n 1, 1) := by decide +kernel
theorem dX3_behind_90 : decode cX3_behind 90 = .ok (.invokevirtual 38, 3) := by decide +kernel
theorem dX3_behind_93 : decode cX3_behind 93 = .ok (.ifCond .le 9, 3) := by decide +kernel
theorem dX3_behind_96 : decode cX3_behind 96 = .ok (.iload_n 1, 1) := by decide +kernel
theorem dX3_behind_97 : decode cX3_behind 97 = .ok (.iconst 1, 1) := by decide +kernel
theorem dX3_behind_98 : decode cX3_behind 98 = .ok (.isub, 1) := by decide +kernel
theorem dX3_behind_99 : decode cX3_behind 99 = .ok (.goto 4, 3) := by decide +kernel
theorem dX3_behind_102 : decode cX3_behind 102 = .ok (.iconst (-1), 1) := by decide +kernel
theorem dX3_behind_103 : decode cX3_behind 103 = .ok (.ireturn, 1) := by decide +kernel
theorem dX3_behind_104 : decode cX3_behind 104 = .ok (.aload_n 0, 1) := by decide +kernel
theorem dX3_behind_105 : decode cX3_behind 105 = .ok (.getfield 20, 3) := by decide +kernel
theorem dX3_behind_108 : decode cX3_behind 108 = .ok (.iload_n 1, 1) := by decide +kernel
theorem dX3_behind_109 : decode cX3_behind 109 = .ok (.invokevirtual 38, 3) := by decide +kernel
theorem dX3_behind_112 : decode cX3_behind 112 = .ok (.ifCond .le 12, 3) := by decide +kernel
theorem dX3_behind_115 : decode cX3_behind 115 = .ok (.iload_n 1, 1) := by decide +kernel
theorem dX3_behind_116 : decode cX3_behind 116 = .ok (.aload_n 0, 1) := by decide +kernel
theorem dX3_behind_117 : decode cX3_behind 117 = .ok (.getfield 23, 3) := by decide +kernel
theorem dX3_behind_120 : decode cX3_behind 120 = .ok (.isub, 1) := by decide +kernel
theorem dX3_behind_121 : decode cX3_behind 121 = .ok (.goto 4, 3) := by decide +kernel
theorem dX3_behind_124 : decode cX3_behind 124 = .ok (.iconst (-1), 1) := by decide +kernel
theorem dX3_behind_125 : decode cX3_behind 125 = .ok (.ireturn, 1) := by decide +kernel
theorem dX3_behind_126 : decode cX3_behind 126 = .ok (.iconst (-1), 1) := by decide +kernel
theorem dX3_behind_127 : decode cX3_behind 127 = .ok (.ireturn, 1) := by decide +kernel
set_option maxRecDepth 20000 in
theorem ggX3_outputTowards_X5_at : GoodIn wsX3_outputTowards wsX5_at := goodIn_r _ [7, 8, 17] (by decide +kernel) (by decide +kernel)
set_option maxRecDepth 20000 in
theorem gX3_outputTowards_X5_at : GoodIn wsX3_outputTowards (wsV RX3 38 RX5 yX5_at wsX5_at) := goodIn_app (goodIn_of _ (by decide +kernel)) ggX3_outputTowards_X5_at
set_option maxRecDepth 20000 in
theorem ggX3_outputTowards_X3_stepTowards : GoodIn wsX3_outputTowards wsX3_stepTowards := goodIn_r _ [12] (by decide +kernel) (by decide +kernel)
set_option maxRecDepth 20000 in
theorem gX3_outputTowards_X3_stepTowards : GoodIn wsX3_outputTowards (va_wsS RX3 42 yX3_stepTowards wsX3_stepTowards) := goodIn_app (goodIn_of _ (by decide +kernel)) ggX3_outputTowards_X3_stepTowards
theorem dX3_outputTowards_0 : decode cX3_outputTowards 0 = .ok (.aload_n 0, 1) := by decide +kernel
theorem dX3_outputTowards_1 : decode cX3_outputTowards 1 = .ok (.getfield 14, 3) := by decide +kernel
theorem dX3_outputTowards_4 : decode cX3_outputTowards 4 = .ok (.iload_n 1, 1) := by decide +kernel
theorem dX3_outputTowards_5 : decode cX3_outputTowards 5 = .ok (.invokevirtual 38, 3) := by decide +kernel
theorem dX3_outputTowards_8 : decode cX3_outputTowards 8 = .ok (.aload_n 0, 1) := by decide +kernel
theorem dX3_outputTowards_9 : decode cX3_outputTowards 9 = .ok (.getfield 14, 3) := by decide +kernel
theorem dX3_outputTowards_12 : decode cX3_outputTowards 12 = .ok (.iload_n 2, 1) := by decide +kernel
theorem dX3_outputTowards_13 : decode cX3_outputTowards 13 = .ok (.invokevirtual 38, 3) := by decide +kernel
theorem dX3_outputTowards_16 : decode cX3_outputTowards 16 = .ok (.iconst 0, 1) := by decide +kernel
theorem dX3_outputTowards_17 : decode cX3_outputTowards 17 = .ok (.iconst 2, 1) := by decide +kernel
theorem dX3_outputTowards_18 : decode cX3_outputTowards 18 = .ok (.invokestatic 42, 3) := by decide +kernel
theorem dX3_outputTowards_21 : decode cX3_outputTowards 21 = .ok (.istore 4, 2) := by decide +kernel
theorem dX3_outputTowards_23 : decode cX3_outputTowards 23 = .ok (.aload_n 0, 1) := by decide +kernel
theorem dX3_outputTowards_24 : decode cX3_outputTowards 24 = .ok (.getfield 20, 3) := by decide +kernel
theorem dX3_outputTowards_27 : decode cX3_outputTowards 27 = .ok (.iload_n 1, 1) := by decide +kernel
theorem dX3_outputTowards_28 : decode cX3_outputTowards 28 = .ok (.invokevirtual 38, 3) := by decide +kernel
theorem dX3_outputTowards_31 : decode cX3_outputTowards 31 = .ok (.aload_n 0, 1) := by decide +kernel
theorem dX3_outputTowards_32 : decode cX3_outputTowards 32 = .ok (.getfield 20, 3) := by decide +kernel
theorem dX3_outputTowards_35 : decode cX3_outputTowards 35 = .ok (.iload_n 2, 1) := by decide +kernel
theorem dX3_outputTowards_36 : decode cX3_outputTowards 36 = .ok (.invokevirtual 38, 3) := by decide +kernel
theorem dX3_outputTowards_39 : decode cX3_outputTowards 39 = .ok (.iconst 1, 1) := by decide +kernel
theorem dX3_outputTowards_40 : decode cX3_outputTowards 40 = .ok (.iconst 3, 1) := by decide +kernel
theorem dX3_outputTowards_41 : decode cX3_outputTowards 41 = .ok (.invokestatic 42, 3) := by decide +kernel
theorem dX3_outputTowards_44 : decode cX3_outputTowards 44 = .ok (.istore 5, 2) := by decide +kernel
theorem dX3_outputTowards_46 : decode cX3_outputTowards 46 = .ok (.iload_n 3, 1) := by decide +kernel
theorem dX3_outputTowards_47 : decode cX3_outputTowards 47 = .ok (.ifCond .ne 17, 3) := by decide +kernel
theorem dX3_outputTowards_50 : decode cX3_outputTowards 50 = .ok (.iload 4, 2) := by decide +kernel
theorem dX3_outputTowards_52 : decode cX3_outputTowards 52 = .ok (.iconst 4, 1) := by decide +kernel
theorem dX3_outputTowards_53 : decode cX3_outputTowards 53 = .ok (.if_icmp .eq 8, 3) := by decide +kernel
theorem dX3_outputTowards_56 : decode cX3_outputTowards 56 = .ok (.iload 4, 2) := by decide +kernel
theorem dX3_outputTowards_58 : decode cX3_outputTowards 58 = .ok (.goto 5, 3) := by decide +kernel
theorem dX3_outputTowards_61 : decode cX3_outputTowards 61 = .ok (.iload 5, 2) := by decide +kernel
theorem dX3_outputTowards_63 : decode cX3_outputTowards 63 = .ok (.ireturn, 1) := by decide +kernel
theorem dX3_outputTowards_64 : decode cX3_outputTowards 64 = .ok (.iload 5, 2) := by decide +kernel
theorem dX3_outputTowards_66 : decode cX3_outputTowards 66 = .ok (.iconst 4, 1) := by decide +kernel
theorem dX3_outputTowards_67 : decode cX3_outputTowards 67 = .ok (.if_icmp .eq 8, 3) := by decide +kernel
theorem dX3_outputTowards_70 : decode cX3_outputTowards 70 = .ok (.iload 5, 2) := by decide +kernel
theorem dX3_outputTowards_72 : decode cX3_outputTowards 72 = .ok (.goto 5, 3) := by decide +kernel
theorem dX3_outputTowards_75 : decode cX3_outputTowards 75 = .ok (.iload 4, 2) := by decide +kernel
theorem dX3_outputTowards_77 : decode cX3_outputTowards 77 = .ok (.ireturn, 1) := by decide +kernel
theorem dX3_stepTowards_0 : decode cX3_stepTowards 0 = .ok (.iload_n 0, 1) := by decide +kernel
theorem dX3_stepTowards_1 : decode cX3_stepTowards 1 = .ok (.iload_n 1, 1) := by decide +kernel
theorem dX3_stepTowards_2 : decode cX3_stepTowards 2 = .ok (.if_icmp .ne 5, 3) := by decide +kernel
theorem dX3_stepTowards_5 : decode cX3_stepTowards 5 = .ok (.iconst 4, 1) := by decide +kernel
theorem dX3_stepTowards_6 : decode cX3_stepTowards 6 = .ok (.ireturn, 1) := by decide +kernel
theorem dX3_stepTowards_7 : decode cX3_stepTowards 7 = .ok (.iload_n 0, 1) := by decide +kernel
theorem dX3_stepTowards_8 : decode cX3_stepTowards 8 = .ok (.iload_n 1, 1) := by decide +kernel
theorem dX3_stepTowards_9 : decode cX3_stepTowards 9 = .ok (.if_icmp .ge 7, 3) := by decide +kernel
theorem dX3_stepTowards_12 : decode cX3_stepTowards 12 = .ok (.iload_n 2, 1) := by decide +kernel
theorem dX3_stepTowards_13 : decode cX3_stepTowards 13 = .ok (.goto 4, 3) := by decide +kernel
theorem dX3_stepTowards_16 : decode cX3_stepTowards 16 = .ok (.iload_n 3, 1) := by decide +kernel
theorem dX3_stepTowards_17 : decode cX3_stepTowards 17 = .ok (.ireturn, 1) := by decide +kernel
set_option maxRecDepth 20000 in
theorem ggX4_init_X5_init : GoodIn wsX4_init wsX5_init := goodIn_r _ [18, 19, 2, 3, 20, 21, 22] (by decide +kernel) (by decide +kernel)
set_option maxRecDepth 20000 in
theorem gX4_init_X5_init : GoodIn wsX4_init (wsX5_init) := ggX4_init_X5_init
theorem dX4_init_0 : decode cX4_init 0 = .ok (.aload_n 0, 1) := by decide +kernel
theorem dX4_init_1 : decode cX4_init 1 = .ok (.invokespecial 3, 3) := by decide +kernel
theorem dX4_init_4 : decode cX4_init 4 = .ok (.aload_n 0, 1) := by decide +kernel
theorem dX4_init_5 : decode cX4_init 5 = .ok (.new 9, 3) := by decide +kernel
theorem dX4_init_8 : decode cX4_init 8 = .ok (.dup, 1) := by decide +kernel
theorem dX4_init_9 : decode cX4_init 9 = .ok (.bipush 80, 2) := by decide +kernel
theorem dX4_init_11 : decode cX4_init 11 = .ok (.invokespecial 11, 3) := by decide +kernel
theorem dX4_init_14 : decode cX4_init 14 = .ok (.putfield 14, 3) := by decide +kernel
theorem dX4_init_17 : decode cX4_init 17 = .ok (.aload_n 0, 1) := by decide +kernel
theorem dX4_init_18 : decode cX4_init 18 = .ok (.new 9, 3) := by decide +kernel
theorem dX4_init_21 : decode cX4_init 21 = .ok (.dup, 1) := by decide +kernel
theorem dX4_init_22 : decode cX4_init 22 = .ok (.bipush 80, 2) := by decide +kernel
theorem dX4_init_24 : decode cX4_init 24 = .ok (.invokespecial 11, 3) := by decide +kernel
theorem dX4_init_27 : decode cX4_init 27 = .ok (.putfield 20, 3) := by decide +kernel
theorem dX4_init_30 : decode cX4_init 30 = .ok (.aload_n 0, 1) := by decide +kernel
theorem dX4_init_31 : decode cX4_init 31 = .ok (.new 9, 3) := by decide +kernel
theorem dX4_init_34 : decode cX4_init 34 = .ok (.dup, 1) := by decide +kernel
theorem dX4_init_35 : decode cX4_init 35 = .ok (.bipush 80, 2) := by decide +kernel
theorem dX4_init_37 : decode cX4_init 37 = .ok (.invokespecial 11, 3) := by decide +kernel
theorem dX4_init_40 : decode cX4_init 40 = .ok (.putfield 23, 3) := by decide +kernel
theorem dX4_init_43 : decode cX4_init 43 = .ok (.aload_n 0, 1) := by decide +kernel
theorem dX4_init_44 : decode cX4_init 44 = .ok (.new 9, 3) := by decide +kernel
theorem dX4_init_47 : decode cX4_init 47 = .ok (.dup, 1) := by decide +kernel
theorem dX4_init_48 : decode cX4_init 48 = .ok (.bipush 80, 2) := by decide +kernel
theorem dX4_init_50 : decode cX4_init 50 = .ok (.invokespecial 11, 3) := by decide +kernel
theorem dX4_init_53 : decode cX4_init 53 = .ok (.putfield 26, 3) := by decide +kernel
theorem dX4_init_56 : decode cX4_init 56 = .ok (.aload_n 0, 1) := by decide +kernel
theorem dX4_init_57 : decode cX4_init 57 = .ok (.new 9, 3) := by decide +kernel
theorem dX4_init_60 : decode cX4_init 60 = .ok (.dup, 1) := by decide +kernel
theorem dX4_init_61 : decode cX4_init 61 = .ok (.bipush 80, 2) := by decide +kernel
theorem dX4_init_63 : decode cX4_init 63 = .ok (.invokespecial 11, 3) := by decide +kernel
theorem dX4_init_66 : decode cX4_init 66 = .ok (.putfield 29, 3) := by decide +kernel
theorem dX4_init_69 : decode cX4_init 69 = .ok (.aload_n 0, 1) := by decide +kernel
theorem dX4_init_70 : decode cX4_init 70 = .ok (.new 9, 3) := by decide +kernel
theorem dX4_init_73 : decode cX4_init 73 = .ok (.dup, 1) := by decide +kernel
theorem dX4_init_74 : decode cX4_init 74 = .ok (.bipush 80, 2) := by decide +kernel
theorem dX4_init_76 : decode cX4_init 76 = .ok (.invokespecial 11, 3) := by decide +kernel
theorem dX4_init_79 : decode cX4_init 79 = .ok (.putfield 32, 3) := by decide +kernel
theorem dX4_init_82 : decode cX4_init 82 = .ok (.aload_n 0, 1) := by decide +kernel
theorem dX4_init_83 : decode cX4_init 83 = .ok (.new 9, 3) := by decide +kernel
theorem dX4_init_86 : decode cX4_init 86 = .ok (.dup, 1) := by decide +kernel
theorem dX4_init_87 : decode cX4_init 87 = .ok (.bipush 80, 2) := by decide +kernel
theorem dX4_init_89 : decode cX4_init 89 = .ok (.invokespecial 11, 3) := by decide +kernel
theorem dX4_init_92 : decode cX4_init 92 = .ok (.putfield 35, 3) := by decide +kernel
theorem dX4_init_95 : decode cX4_init 95 = .ok (.aload_n 0, 1) := by decide +kernel
theorem dX4_init_96 : decode cX4_init 96 = .ok (.new 9, 3) := by decide +kernel
theorem dX4_init_99 : decode cX4_init 99 = .ok (.dup, 1) := by decide +kernel
theorem dX4_init_100 : decode cX4_init 100 = .ok (.bipush 80, 2) := by decide +kernel
theorem dX4_init_102 : decode cX4_init 102 = .ok (.invokespecial 11, 3) := by decide +kernel
theorem dX4_init_105 : decode cX4_init 105 = .ok (.putfield 38, 3) := by decide +kernel
theorem dX4_init_108 : decode cX4_init 108 = .ok (.aload_n 0, 1) := by decide +kernel
theorem dX4_init_109 : decode cX4_init 109 = .ok (.aload_n 1, 1) := by decide +kernel
theorem dX4_init_110 : decode cX4_init 110 = .ok (.putfield 41, 3) := by decide +kernel
theorem dX4_init_113 : decode cX4_init 113 = .ok (.return_, 1) := by decide +kernel
theorem dX4_clear_0 : decode cX4_clear 0 = .ok (.aload_n 0, 1) := by decide +kernel
theorem dX4_clear_1 : decode cX4_clear 1 = .ok (.iconst 0, 1) := by decide +kernel
theorem dX4_clear_2 : decode cX4_clear 2 = .ok (.putfield 45, 3) := by decide +kernel
theorem dX4_clear_5 : decode cX4_clear 5 = .ok (.aload_n 0, 1) := by decide +kernel
theorem dX4_clear_6 : decode cX4_clear 6 = .ok (.iconst 0, 1) := by decide +kernel
theorem dX4_clear_7 : decode cX4_clear 7 = .ok (.putfield 49, 3) := by decide +kernel
theorem dX4_clear_10 : decode cX4_clear 10 = .ok (.return_, 1) := by decide +kernel
set_option maxRecDepth 20000 in
theorem ggX4_add_X5_put : GoodIn wsX4_add wsX5_put := goodIn_r _ [14, 15, 27] (by decide +kernel) (by decide +kernel)
set_option maxRecDepth 20000 in
theorem gX4_add_X5_put : GoodIn wsX4_add (wsV RX4 52 RX5 yX5_put wsX5_put) := goodIn_app (goodIn_of _ (by decide +kernel)) ggX4_add_X5_put
theorem dX4_add_0 : decode cX4_add 0 = .ok (.aload_n 0, 1) := by decide +kernel
theorem dX4_add_1 : decode cX4_add 1 = .ok (.getfield 45, 3) := by decide +kernel
theorem dX4_add_4 : decode cX4_add 4 = .ok (.istore 5, 2) := by decide +kernel
theorem dX4_add_6 : decode cX4_add 6 = .ok (.aload_n 0, 1) := by decide +kernel
theorem dX4_add_7 : decode cX4_add 7 = .ok (.getfield 14, 3) := by decide +kernel
theorem dX4_add_10 : decode cX4_add 10 = .ok (.iload 5, 2) := by decide +kernel
theorem dX4_add_12 : decode cX4_add 12 = .ok (.iload_n 1, 1) := by decide +kernel
theorem dX4_add_13 : decode cX4_add 13 = .ok (.invokevirtual 52, 3) := by decide +kernel
theorem dX4_add_16 : decode cX4_add 16 = .ok (.aload_n 0, 1) := by decide +kernel
theorem dX4_add_17 : decode cX4_add 17 = .ok (.getfield 20, 3) := by decide +kernel
theorem dX4_add_20 : decode cX4_add 20 = .ok (.iload 5, 2) := by decide +kernel
theorem dX4_add_22 : decode cX4_add 22 = .ok (.iload_n 2, 1) := by decide +kernel
theorem dX4_add_23 : decode cX4_add 23 = .ok (.invokevirtual 52, 3) := by decide +kernel
theorem dX4_add_26 : decode cX4_add 26 = .ok (.aload_n 0, 1) := by decide +kernel
theorem dX4_add_27 : decode cX4_add 27 = .ok (.getfield 23, 3) := by decide +kernel
theorem dX4_add_30 : decode cX4_add 30 = .ok (.iload 5, 2) := by decide +kernel
theorem dX4_add_32 : decode cX4_add 32 = .ok (.iload_n 3, 1) := by decide +kernel
theorem dX4_add_33 : decode cX4_add 33 = .ok (.invokevirtual 52, 3) := by decide +kernel
theorem dX4_add_36 : decode cX4_add 36 = .ok (.aload_n 0, 1) := by decide +kernel
theorem dX4_add_37 : decode cX4_add 37 = .ok (.getfield 26, 3) := by decide +kernel
theorem dX4_add_40 : decode cX4_add 40 = .ok (.iload 5, 2) := by decide +kernel
theorem dX4_add_42 : decode cX4_add 42 = .ok (.iload 4, 2) := by decide +kernel
theorem dX4_add_44 : decode cX4_add 44 = .ok (.invokevirtual 52, 3) := by decide +kernel
theorem dX4_add_47 : decode cX4_add 47 = .ok (.aload_n 0, 1) := by decide +kernel
theorem dX4_add_48 : decode cX4_add 48 = .ok (.getfield 29, 3) := by decide +kernel
theorem dX4_add_51 : decode cX4_add 51 = .ok (.iload 5, 2) := by decide +kernel
theorem dX4_add_53 : decode cX4_add 53 = .ok (.iload_n 1, 1) := by decide +kernel
theorem dX4_add_54 : decode cX4_add 54 = .ok (.invokevirtual 52, 3) := by decide +kernel
theorem dX4_add_57 : decode cX4_add 57 = .ok (.aload_n 0, 1) := by decide +kernel
theorem dX4_add_58 : decode cX4_add 58 = .ok (.getfield 32, 3) := by decide +kernel
theorem dX4_add_61 : decode cX4_add 61 = .ok (.iload 5, 2) := by decide +kernel
theorem dX4_add_63 : decode cX4_add 63 = .ok (.iconst 4, 1) := by decide +kernel
theorem dX4_add_64 : decode cX4_add 64 = .ok (.invokevirtual 52, 3) := by decide +kernel
theorem dX4_add_67 : decode cX4_add 67 = .ok (.aload_n 0, 1) := by decide +kernel
theorem dX4_add_68 : decode cX4_add 68 = .ok (.getfield 35, 3) := by decide +kernel
theorem dX4_add_71 : decode cX4_add 71 = .ok (.iload 5, 2) := by decide +kernel
theorem dX4_add_73 : decode cX4_add 73 = .ok (.iconst 0, 1) := by decide +kernel
theorem dX4_add_74 : decode cX4_add 74 = .ok (.invokevirtual 52, 3) := by decide +kernel
theorem dX4_add_77 : decode cX4_add 77 = .ok (.aload_n 0, 1) := by decide +kernel
theorem dX4_add_78 : decode cX4_add 78 = .ok (.getfield 38, 3) := by decide +kernel
theorem dX4_add_81 : decode cX4_add 81 = .ok (.iload 5, 2) := by decide +kernel
theorem dX4_add_83 : decode cX4_add 83 = .ok (.iconst 0, 1) := by decide +kernel
theorem dX4_add_84 : decode cX4_add 84 = .ok (.invokevirtual 52, 3) := by decide +kernel
theorem dX4_add_87 : decode cX4_add 87 = .ok (.aload_n 0, 1) := by decide +kernel
theorem dX4_add_88 : decode cX4_add 88 = .ok (.dup, 1) := by decide +kernel
theorem dX4_add_89 : decode cX4_add 89 = .ok (.getfield 45, 3) := by decide +kernel
theorem dX4_add_92 : decode cX4_add 92 = .ok (.iconst 1, 1) := by decide +kernel
theorem dX4_add_93 : decode cX4_add 93 = .ok (.iadd, 1) := by decide +kernel
theorem dX4_add_94 : decode cX4_add 94 = .ok (.putfield 45, 3) := by decide +kernel
theorem dX4_add_97 : decode cX4_add 97 = .ok (.iload 5, 2) := by decide +kernel
theorem dX4_add_99 : decode cX4_add 99 = .ok (.ireturn, 1) := by decide +kernel
set_option maxRecDepth 20000 in
theorem ggX4_outputOf_X5_at : GoodIn wsX4_outputOf wsX5_at := goodIn_r _ [9, 10, 33] (by decide +kernel) (by decide +kernel)
set_option maxRecDepth 20000 in
theorem gX4_outputOf_X5_at : GoodIn wsX4_outputOf (wsV RX4 56 RX5 yX5_at wsX5_at) := goodIn_app (goodIn_of _ (by decide +kernel)) ggX4_outputOf_X5_at
set_option maxRecDepth 20000 in
theorem ggX4_outputOf_X3_outputTowards : GoodIn wsX4_outputOf wsX3_outputTowards := goodIn_r _ [15, 16, 17, 18, 6, 7, 8, 9, 10, 19, 20, 14, 21, 34, 35, 36, 37, 33] (by decide +kernel) (by decide +kernel)
set_option maxRecDepth 20000 in
theorem gX4_outputOf_X3_outputTowards : GoodIn wsX4_outputOf (wsV RX4 60 RX3 yX3_outputTowards wsX3_outputTowards) := goodIn_app (goodIn_of _ (by decide +kernel)) ggX4_outputOf_X3_outputTowards
theorem dX4_outputOf_0 : decode cX4_outputOf 0 = .ok (.aload_n 0, 1) := by decide +kernel
theorem dX4_outputOf_1 : decode cX4_outputOf 1 = .ok (.getfield 29, 3) := by decide +kernel
theorem dX4_outputOf_4 : decode cX4_outputOf 4 = .ok (.iload_n 1, 1) := by decide +kernel
theorem dX4_outputOf_5 : decode cX4_outputOf 5 = .ok (.invokevirtual 56, 3) := by decide +kernel
theorem dX4_outputOf_8 : decode cX4_outputOf 8 = .ok (.istore_n 2, 1) := by decide +kernel
theorem dX4_outputOf_9 : decode cX4_outputOf 9 = .ok (.iload_n 2, 1) := by decide +kernel
theorem dX4_outputOf_10 : decode cX4_outputOf 10 = .ok (.iconst (-1), 1) := by decide +kernel
theorem dX4_outputOf_11 : decode cX4_outputOf 11 = .ok (.if_icmp .ne 7, 3) := by decide +kernel
theorem dX4_outputOf_14 : decode cX4_outputOf 14 = .ok (.iconst (-1), 1) := by decide +kernel
theorem dX4_outputOf_15 : decode cX4_outputOf 15 = .ok (.goto 27, 3) := by decide +kernel
theorem dX4_outputOf_18 : decode cX4_outputOf 18 = .ok (.aload_n 0, 1) := by decide +kernel
theorem dX4_outputOf_19 : decode cX4_outputOf 19 = .ok (.getfield 41, 3) := by decide +kernel
theorem dX4_outputOf_22 : decode cX4_outputOf 22 = .ok (.iload_n 2, 1) := by decide +kernel
theorem dX4_outputOf_23 : decode cX4_outputOf 23 = .ok (.aload_n 0, 1) := by decide +kernel
theorem dX4_outputOf_24 : decode cX4_outputOf 24 = .ok (.getfield 20, 3) := by decide +kernel
theorem dX4_outputOf_27 : decode cX4_outputOf 27 = .ok (.iload_n 1, 1) := by decide +kernel
theorem dX4_outputOf_28 : decode cX4_outputOf 28 = .ok (.invokevirtual 56, 3) := by decide +kernel
theorem dX4_outputOf_31 : decode cX4_outputOf 31 = .ok (.aload_n 0, 1) := by decide +kernel
theorem dX4_outputOf_32 : decode cX4_outputOf 32 = .ok (.getfield 26, 3) := by decide +kernel
theorem dX4_outputOf_35 : decode cX4_outputOf 35 = .ok (.iload_n 1, 1) := by decide +kernel
theorem dX4_outputOf_36 : decode cX4_outputOf 36 = .ok (.invokevirtual 56, 3) := by decide +kernel
theorem dX4_outputOf_39 : decode cX4_outputOf 39 = .ok (.invokevirtual 60, 3) := by decide +kernel
theorem dX4_outputOf_42 : decode cX4_outputOf 42 = .ok (.ireturn, 1) := by decide +kernel
set_option maxRecDepth 20000 in
theorem ggX4_goOver_X5_put : GoodIn wsX4_goOver wsX5_put := goodIn_r _ [8, 9, 30] (by decide +kernel) (by decide +kernel)
set_option maxRecDepth 20000 in
theorem gX4_goOver_X5_put : GoodIn wsX4_goOver (wsV RX4 52 RX5 yX5_put wsX5_put) := goodIn_app (goodIn_of _ (by decide +kernel)) ggX4_goOver_X5_put
set_option maxRecDepth 20000 in
theorem ggX4_goOver_X5_add : GoodIn wsX4_goOver wsX5_add := goodIn_r _ [13, 14, 15, 16, 7, 17, 9, 18, 5, 6, 8, 30] (by decide +kernel) (by decide +kernel)
set_option maxRecDepth 20000 in
theorem gX4_goOver_X5_add : GoodIn wsX4_goOver (wsV RX4 66 RX5 yX5_add wsX5_add) := goodIn_app (goodIn_of _ (by decide +kernel)) ggX4_goOver_X5_add
theorem dX4_goOver_0 : decode cX4_goOver 0 = .ok (.aload_n 0, 1) := by decide +kernel
theorem dX4_goOver_1 : decode cX4_goOver 1 = .ok (.getfield 29, 3) := by decide +kernel
theorem dX4_goOver_4 : decode cX4_goOver 4 = .ok (.iload_n 1, 1) := by decide +kernel
theorem dX4_goOver_5 : decode cX4_goOver 5 = .ok (.iload_n 2, 1) := by decide +kernel
theorem dX4_goOver_6 : decode cX4_goOver 6 = .ok (.invokevirtual 52, 3) := by decide +kernel
theorem dX4_goOver_9 : decode cX4_goOver 9 = .ok (.aload_n 0, 1) := by decide +kernel
theorem dX4_goOver_10 : decode cX4_goOver 10 = .ok (.getfield 32, 3) := by decide +kernel
theorem dX4_goOver_13 : decode cX4_goOver 13 = .ok (.iload_n 1, 1) := by decide +kernel
theorem dX4_goOver_14 : decode cX4_goOver 14 = .ok (.iload_n 3, 1) := by decide +kernel
theorem dX4_goOver_15 : decode cX4_goOver 15 = .ok (.invokevirtual 52, 3) := by decide +kernel
theorem dX4_goOver_18 : decode cX4_goOver 18 = .ok (.aload_n 0, 1) := by decide +kernel
theorem dX4_goOver_19 : decode cX4_goOver 19 = .ok (.getfield 35, 3) := by decide +kernel
theorem dX4_goOver_22 : decode cX4_goOver 22 = .ok (.iload_n 1, 1) := by decide +kernel
theorem dX4_goOver_23 : decode cX4_goOver 23 = .ok (.iconst 1, 1) := by decide +kernel
theorem dX4_goOver_24 : decode cX4_goOver 24 = .ok (.invokevirtual 66, 3) := by decide +kernel
theorem dX4_goOver_27 : decode cX4_goOver 27 = .ok (.return_, 1) := by decide +kernel
set_option maxRecDepth 20000 in
theorem ggX4_goOut_X5_put : GoodIn wsX4_goOut wsX5_put := goodIn_r _ [7, 8, 20] (by decide +kernel) (by decide +kernel)
set_option maxRecDepth 20000 in
theorem gX4_goOut_X5_put : GoodIn wsX4_goOut (wsV RX4 52 RX5 yX5_put wsX5_put) := goodIn_app (goodIn_of _ (by decide +kernel)) ggX4_goOut_X5_put
theorem dX4_goOut_0 : decode cX4_goOut 0 = .ok (.aload_n 0, 1) := by decide +kernel
theorem dX4_goOut_1 : decode cX4_goOut 1 = .ok (.getfield 29, 3) := by decide +kernel
theorem dX4_goOut_4 : decode cX4_goOut 4 = .ok (.iload_n 1, 1) := by decide +kernel
theorem dX4_goOut_5 : decode cX4_goOut 5 = .ok (.iconst (-1), 1) := by decide +kernel
theorem dX4_goOut_6 : decode cX4_goOut 6 = .ok (.invokevirtual 52, 3) := by decide +kernel
theorem dX4_goOut_9 : decode cX4_goOut 9 = .ok (.aload_n 0, 1) := by decide +kernel
theorem dX4_goOut_10 : decode cX4_goOut 10 = .ok (.dup, 1) := by decide +kernel
theorem dX4_goOut_11 : decode cX4_goOut 11 = .ok (.getfield 49, 3) := by decide +kernel
theorem dX4_goOut_14 : decode cX4_goOut 14 = .ok (.iconst 1, 1) := by decide +kernel
theorem dX4_goOut_15 : decode cX4_goOut 15 = .ok (.iadd, 1) := by decide +kernel
theorem dX4_goOut_16 : decode cX4_goOut 16 = .ok (.putfield 49, 3) := by decide +kernel
theorem dX4_goOut_19 : decode cX4_goOut 19 = .ok (.return_, 1) := by decide +kernel
theorem dX5_init_0 : decode cX5_init 0 = .ok (.aload_n 0, 1) := by decide +kernel
theorem dX5_init_1 : decode cX5_init 1 = .ok (.invokespecial 1, 3) := by decide +kernel
theorem dX5_init_4 : decode cX5_init 4 = .ok (.aload_n 0, 1) := by decide +kernel
theorem dX5_init_5 : decode cX5_init 5 = .ok (.iload_n 1, 1) := by decide +kernel
theorem dX5_init_6 : decode cX5_init 6 = .ok (.ifCond .le 7, 3) := by decide +kernel
theorem dX5_init_9 : decode cX5_init 9 = .ok (.iload_n 1, 1) := by decide +kernel
theorem dX5_init_10 : decode cX5_init 10 = .ok (.goto 4, 3) := by decide +kernel
theorem dX5_init_13 : decode cX5_init 13 = .ok (.iconst 0, 1) := by decide +kernel
theorem dX5_init_14 : decode cX5_init 14 = .ok (.newarray .int, 2) := by decide +kernel
theorem dX5_init_16 : decode cX5_init 16 = .ok (.putfield 7, 3) := by decide +kernel
theorem dX5_init_19 : decode cX5_init 19 = .ok (.return_, 1) := by decide +kernel
theorem dX5_at_0 : decode cX5_at 0 = .ok (.iload_n 1, 1) := by decide +kernel
theorem dX5_at_1 : decode cX5_at 1 = .ok (.ifCond .lt 21, 3) := by decide +kernel
theorem dX5_at_4 : decode cX5_at 4 = .ok (.iload_n 1, 1) := by decide +kernel
theorem dX5_at_5 : decode cX5_at 5 = .ok (.aload_n 0, 1) := by decide +kernel
theorem dX5_at_6 : decode cX5_at 6 = .ok (.getfield 7, 3) := by decide +kernel
theorem dX5_at_9 : decode cX5_at 9 = .ok (.arraylength, 1) := by decide +kernel
theorem dX5_at_10 : decode cX5_at 10 = .ok (.if_icmp .ge 12, 3) := by decide +kernel
theorem dX5_at_13 : decode cX5_at 13 = .ok (.aload_n 0, 1) := by decide +kernel
theorem dX5_at_14 : decode cX5_at 14 = .ok (.getfield 7, 3) := by decide +kernel
theorem dX5_at_17 : decode cX5_at 17 = .ok (.iload_n 1, 1) := by decide +kernel
theorem dX5_at_18 : decode cX5_at 18 = .ok (.iaload, 1) := by decide +kernel
theorem dX5_at_19 : decode cX5_at 19 = .ok (.goto 4, 3) := by decide +kernel
theorem dX5_at_22 : decode cX5_at 22 = .ok (.iconst 0, 1) := by decide +kernel
theorem dX5_at_23 : decode cX5_at 23 = .ok (.ireturn, 1) := by decide +kernel
theorem dX5_put_0 : decode cX5_put 0 = .ok (.iload_n 1, 1) := by decide +kernel
theorem dX5_put_1 : decode cX5_put 1 = .ok (.ifCond .lt 19, 3) := by decide +kernel
theorem dX5_put_4 : decode cX5_put 4 = .ok (.iload_n 1, 1) := by decide +kernel
theorem dX5_put_5 : decode cX5_put 5 = .ok (.aload_n 0, 1) := by decide +kernel
theorem dX5_put_6 : decode cX5_put 6 = .ok (.getfield 7, 3) := by decide +kernel
theorem dX5_put_9 : decode cX5_put 9 = .ok (.arraylength, 1) := by decide +kernel
theorem dX5_put_10 : decode cX5_put 10 = .ok (.if_icmp .ge 10, 3) := by decide +kernel
theorem dX5_put_13 : decode cX5_put 13 = .ok (.aload_n 0, 1) := by decide +kernel
theorem dX5_put_14 : decode cX5_put 14 = .ok (.getfield 7, 3) := by decide +kernel
theorem dX5_put_17 : decode cX5_put 17 = .ok (.iload_n 1, 1) := by decide +kernel
theorem dX5_put_18 : decode cX5_put 18 = .ok (.iload_n 2, 1) := by decide +kernel
theorem dX5_put_19 : decode cX5_put 19 = .ok (.iastore, 1) := by decide +kernel
theorem dX5_put_20 : decode cX5_put 20 = .ok (.return_, 1) := by decide +kernel
set_option maxRecDepth 20000 in
theorem ggX5_add_X5_at : GoodIn wsX5_add wsX5_at := goodIn_r _ [5, 6, 11] (by decide +kernel) (by decide +kernel)
set_option maxRecDepth 20000 in
theorem gX5_add_X5_at : GoodIn wsX5_add (wsV RX5 13 RX5 yX5_at wsX5_at) := goodIn_app (goodIn_of _ (by decide +kernel)) ggX5_add_X5_at
set_option maxRecDepth 20000 in
theorem ggX5_add_X5_put : GoodIn wsX5_add wsX5_put := goodIn_r _ [10, 6, 11] (by decide +kernel) (by decide +kernel)
set_option maxRecDepth 20000 in
theorem gX5_add_X5_put : GoodIn wsX5_add (wsV RX5 17 RX5 yX5_put wsX5_put) := goodIn_app (goodIn_of _ (by decide +kernel)) ggX5_add_X5_put
theorem dX5_add_0 : decode cX5_add 0 = .ok (.aload_n 0, 1) := by decide +kernel
theorem dX5_add_1 : decode cX5_add 1 = .ok (.iload_n 1, 1) := by decide +kernel
theorem dX5_add_2 : decode cX5_add 2 = .ok (.aload_n 0, 1) := by decide +kernel
theorem dX5_add_3 : decode cX5_add 3 = .ok (.iload_n 1, 1) := by decide +kernel
theorem dX5_add_4 : decode cX5_add 4 = .ok (.invokevirtual 13, 3) := by decide +kernel
theorem dX5_add_7 : decode cX5_add 7 = .ok (.iload_n 2, 1) := by decide +kernel
theorem dX5_add_8 : decode cX5_add 8 = .ok (.iadd, 1) := by decide +kernel
theorem dX5_add_9 : decode cX5_add 9 = .ok (.invokevirtual 17, 3) := by decide +kernel
theorem dX5_add_12 : decode cX5_add 12 = .ok (.return_, 1) := by decide +kernel
theorem dX5_fill_0 : decode cX5_fill 0 = .ok (.iconst 0, 1) := by decide +kernel
theorem dX5_fill_1 : decode cX5_fill 1 = .ok (.istore_n 2, 1) := by decide +kernel
theorem dX5_fill_2 : decode cX5_fill 2 = .ok (.iload_n 2, 1) := by decide +kernel
theorem dX5_fill_3 : decode cX5_fill 3 = .ok (.aload_n 0, 1) := by decide +kernel
theorem dX5_fill_4 : decode cX5_fill 4 = .ok (.getfield 7, 3) := by decide +kernel
theorem dX5_fill_7 : decode cX5_fill 7 = .ok (.arraylength, 1) := by decide +kernel
theorem dX5_fill_8 : decode cX5_fill 8 = .ok (.if_icmp .ge 16, 3) := by decide +kernel
theorem dX5_fill_11 : decode cX5_fill 11 = .ok (.aload_n 0, 1) := by decide +kernel
theorem dX5_fill_12 : decode cX5_fill 12 = .ok (.getfield 7, 3) := by decide +kernel
theorem dX5_fill_15 : decode cX5_fill 15 = .ok (.iload_n 2, 1) := by decide +kernel
theorem dX5_fill_16 : decode cX5_fill 16 = .ok (.iload_n 1, 1) := by decide +kernel
theorem dX5_fill_17 : decode cX5_fill 17 = .ok (.iastore, 1) := by decide +kernel
theorem dX5_fill_18 : decode cX5_fill 18 = .ok (.iinc 2 1, 3) := by decide +kernel
theorem dX5_fill_21 : decode cX5_fill 21 = .ok (.goto (-19), 3) := by decide +kernel
theorem dX5_fill_24 : decode cX5_fill 24 = .ok (.return_, 1) := by decide +kernel
set_option maxRecDepth 20000 in
theorem ggX6_init_X5_init : GoodIn wsX6_init wsX5_init := goodIn_r _ [11, 12, 2, 3, 13, 14, 15] (by decide +kernel) (by decide +kernel)
set_option maxRecDepth 20000 in
theorem gX6_init_X5_init : GoodIn wsX6_init (wsX5_init) := ggX6_init_X5_init
theorem dX6_init_0 : decode cX6_init 0 = .ok (.aload_n 0, 1) := by decide +kernel
theorem dX6_init_1 : decode cX6_init 1 = .ok (.invokespecial 3, 3) := by decide +kernel
theorem dX6_init_4 : decode cX6_init 4 = .ok (.aload_n 0, 1) := by decide +kernel
theorem dX6_init_5 : decode cX6_init 5 = .ok (.new 9, 3) := by decide +kernel
theorem dX6_init_8 : decode cX6_init 8 = .ok (.dup, 1) := by decide +kernel
theorem dX6_init_9 : decode cX6_init 9 = .ok (.bipush 16, 2) := by decide +kernel
theorem dX6_init_11 : decode cX6_init 11 = .ok (.invokespecial 11, 3) := by decide +kernel
theorem dX6_init_14 : decode cX6_init 14 = .ok (.putfield 14, 3) := by decide +kernel
theorem dX6_init_17 : decode cX6_init 17 = .ok (.aload_n 0, 1) := by decide +kernel
theorem dX6_init_18 : decode cX6_init 18 = .ok (.new 9, 3) := by decide +kernel
theorem dX6_init_21 : decode cX6_init 21 = .ok (.dup, 1) := by decide +kernel
theorem dX6_init_22 : decode cX6_init 22 = .ok (.bipush 16, 2) := by decide +kernel
theorem dX6_init_24 : decode cX6_init 24 = .ok (.invokespecial 11, 3) := by decide +kernel
theorem dX6_init_27 : decode cX6_init 27 = .ok (.putfield 20, 3) := by decide +kernel
theorem dX6_init_30 : decode cX6_init 30 = .ok (.return_, 1) := by decide +kernel
set_option maxRecDepth 20000 in
theorem ggX6_clear_X5_fill : GoodIn wsX6_clear wsX5_fill := goodIn_r _ [7, 8, 11] (by decide +kernel) (by decide +kernel)
set_option maxRecDepth 20000 in
theorem gX6_clear_X5_fill : GoodIn wsX6_clear (wsV RX6 23 RX5 yX5_fill wsX5_fill) := goodIn_app (goodIn_of _ (by decide +kernel)) ggX6_clear_X5_fill
theorem dX6_clear_0 : decode cX6_clear 0 = .ok (.aload_n 0, 1) := by decide +kernel
theorem dX6_clear_1 : decode cX6_clear 1 = .ok (.getfield 14, 3) := by decide +kernel
theorem dX6_clear_4 : decode cX6_clear 4 = .ok (.iconst 1, 1) := by decide +kernel
theorem dX6_clear_5 : decode cX6_clear 5 = .ok (.invokevirtual 23, 3) := by decide +kernel
theorem dX6_clear_8 : decode cX6_clear 8 = .ok (.aload_n 0, 1) := by decide +kernel
theorem dX6_clear_9 : decode cX6_clear 9 = .ok (.getfield 20, 3) := by decide +kernel
theorem dX6_clear_12 : decode cX6_clear 12 = .ok (.iconst (-1), 1) := by decide +kernel
theorem dX6_clear_13 : decode cX6_clear 13 = .ok (.invokevirtual 23, 3) := by decide +kernel
theorem dX6_clear_16 : decode cX6_clear 16 = .ok (.return_, 1) := by decide +kernel
set_option maxRecDepth 20000 in
theorem ggX6_gapOf_X5_at : GoodIn wsX6_gapOf wsX5_at := goodIn_r _ [6, 7, 10] (by decide +kernel) (by decide +kernel)
set_option maxRecDepth 20000 in
theorem gX6_gapOf_X5_at : GoodIn wsX6_gapOf (wsV RX6 26 RX5 yX5_at wsX5_at) := goodIn_app (goodIn_of _ (by decide +kernel)) ggX6_gapOf_X5_at
theorem dX6_gapOf_0 : decode cX6_gapOf 0 = .ok (.aload_n 0, 1) := by decide +kernel
theorem dX6_gapOf_1 : decode cX6_gapOf 1 = .ok (.getfield 14, 3) := by decide +kernel
theorem dX6_gapOf_4 : decode cX6_gapOf 4 = .ok (.iload_n 1, 1) := by decide +kernel
theorem dX6_gapOf_5 : decode cX6_gapOf 5 = .ok (.invokevirtual 26, 3) := by decide +kernel
theorem dX6_gapOf_8 : decode cX6_gapOf 8 = .ok (.ireturn, 1) := by decide +kernel
set_option maxRecDepth 20000 in
theorem ggX6_isReady_X5_at : GoodIn wsX6_isReady wsX5_at := goodIn_r _ [7, 8, 11] (by decide +kernel) (by decide +kernel)
set_option maxRecDepth 20000 in
theorem gX6_isReady_X5_at : GoodIn wsX6_isReady (wsV RX6 26 RX5 yX5_at wsX5_at) := goodIn_app (goodIn_of _ (by decide +kernel)) ggX6_isReady_X5_at
theorem dX6_isReady_0 : decode cX6_isReady 0 = .ok (.aload_n 0, 1) := by decide +kernel
theorem dX6_isReady_1 : decode cX6_isReady 1 = .ok (.getfield 20, 3) := by decide +kernel
theorem dX6_isReady_4 : decode cX6_isReady 4 = .ok (.iload_n 1, 1) := by decide +kernel
theorem dX6_isReady_5 : decode cX6_isReady 5 = .ok (.invokevirtual 26, 3) := by decide +kernel
theorem dX6_isReady_8 : decode cX6_isReady 8 = .ok (.istore_n 3, 1) := by decide +kernel
theorem dX6_isReady_9 : decode cX6_isReady 9 = .ok (.iload_n 3, 1) := by decide +kernel
theorem dX6_isReady_10 : decode cX6_isReady 10 = .ok (.iconst (-1), 1) := by decide +kernel
theorem dX6_isReady_11 : decode cX6_isReady 11 = .ok (.if_icmp .eq 17, 3) := by decide +kernel
theorem dX6_isReady_14 : decode cX6_isReady 14 = .ok (.iload_n 2, 1) := by decide +kernel
theorem dX6_isReady_15 : decode cX6_isReady 15 = .ok (.iload_n 3, 1) := by decide +kernel
theorem dX6_isReady_16 : decode cX6_isReady 16 = .ok (.isub, 1) := by decide +kernel
theorem dX6_isReady_17 : decode cX6_isReady 17 = .ok (.aload_n 0, 1) := by decide +kernel
theorem dX6_isReady_18 : decode cX6_isReady 18 = .ok (.getfield 14, 3) := by decide +kernel
theorem dX6_isReady_21 : decode cX6_isReady 21 = .ok (.iload_n 1, 1) := by decide +kernel
theorem dX6_isReady_22 : decode cX6_isReady 22 = .ok (.invokevirtual 26, 3) := by decide +kernel
theorem dX6_isReady_25 : decode cX6_isReady 25 = .ok (.if_icmp .lt 7, 3) := by decide +kernel
theorem dX6_isReady_28 : decode cX6_isReady 28 = .ok (.iconst 1, 1) := by decide +kernel
theorem dX6_isReady_29 : decode cX6_isReady 29 = .ok (.goto 4, 3) := by decide +kernel
theorem dX6_isReady_32 : decode cX6_isReady 32 = .ok (.iconst 0, 1) := by decide +kernel
theorem dX6_isReady_33 : decode cX6_isReady 33 = .ok (.ireturn, 1) := by decide +kernel
set_option maxRecDepth 20000 in
theorem ggX6_note_X5_put : GoodIn wsX6_note wsX5_put := goodIn_r _ [6, 7, 10] (by decide +kernel) (by decide +kernel)
set_option maxRecDepth 20000 in
theorem gX6_note_X5_put : GoodIn wsX6_note (wsV RX6 30 RX5 yX5_put wsX5_put) := goodIn_app (goodIn_of _ (by decide +kernel)) ggX6_note_X5_put
theorem dX6_note_0 : decode cX6_note 0 = .ok (.aload_n 0, 1) := by decide +kernel
theorem dX6_note_1 : decode cX6_note 1 = .ok (.getfield 20, 3) := by decide +kernel
theorem dX6_note_4 : decode cX6_note 4 = .ok (.iload_n 1, 1) := by decide +kernel
theorem dX6_note_5 : decode cX6_note 5 = .ok (.iload_n 2, 1) := by decide +kernel
theorem dX6_note_6 : decode cX6_note 6 = .ok (.invokevirtual 30, 3) := by decide +kernel
theorem dX6_note_9 : decode cX6_note 9 = .ok (.return_, 1) := by decide +kernel
set_option maxRecDepth 20000 in
theorem ggX6_adapt_X5_at : GoodIn wsX6_adapt wsX5_at := goodIn_r _ [13, 14, 21] (by decide +kernel) (by decide +kernel)
set_option maxRecDepth 20000 in
theorem gX6_adapt_X5_at : GoodIn wsX6_adapt (wsV RX6 26 RX5 yX5_at wsX5_at) := goodIn_app (goodIn_of _ (by decide +kernel)) ggX6_adapt_X5_at
set_option maxRecDepth 20000 in
theorem ggX6_adapt_X5_put : GoodIn wsX6_adapt wsX5_put := goodIn_r _ [18, 14, 21] (by decide +kernel) (by decide +kernel)
set_option maxRecDepth 20000 in
theorem gX6_adapt_X5_put : GoodIn wsX6_adapt (wsV RX6 30 RX5 yX5_put wsX5_put) := goodIn_app (goodIn_of _ (by decide +kernel)) ggX6_adapt_X5_put
theorem dX6_adapt_0 : decode cX6_adapt 0 = .ok (.aload_n 0, 1) := by decide +kernel
theorem dX6_adapt_1 : decode cX6_adapt 1 = .ok (.getfield 14, 3) := by decide +kernel
theorem dX6_adapt_4 : decode cX6_adapt 4 = .ok (.iload_n 1, 1) := by decide +kernel
theorem dX6_adapt_5 : decode cX6_adapt 5 = .ok (.invokevirtual 26, 3) := by decide +kernel
theorem dX6_adapt_8 : decode cX6_adapt 8 = .ok (.istore_n 3, 1) := by decide +kernel
theorem dX6_adapt_9 : decode cX6_adapt 9 = .ok (.aload_n 0, 1) := by decide +kernel
theorem dX6_adapt_10 : decode cX6_adapt 10 = .ok (.getfield 14, 3) := by decide +kernel
theorem dX6_adapt_13 : decode cX6_adapt 13 = .ok (.iload_n 1, 1) := by decide +kernel
theorem dX6_adapt_14 : decode cX6_adapt 14 = .ok (.iload_n 2, 1) := by decide +kernel
theorem dX6_adapt_15 : decode cX6_adapt 15 = .ok (.ifCond .eq 14, 3) := by decide +kernel
theorem dX6_adapt_18 : decode cX6_adapt 18 = .ok (.bipush 16, 2) := by decide +kernel
theorem dX6_adapt_20 : decode cX6_adapt 20 = .ok (.iconst 2, 1) := by decide +kernel
theorem dX6_adapt_21 : decode cX6_adapt 21 = .ok (.iload_n 3, 1) := by decide +kernel
theorem dX6_adapt_22 : decode cX6_adapt 22 = .ok (.imul, 1) := by decide +kernel
theorem dX6_adapt_23 : decode cX6_adapt 23 = .ok (.invokestatic 34, 3) := by decide +kernel
theorem dX6_adapt_26 : decode cX6_adapt 26 = .ok (.goto 10, 3) := by decide +kernel
theorem dX6_adapt_29 : decode cX6_adapt 29 = .ok (.iconst 1, 1) := by decide +kernel
theorem dX6_adapt_30 : decode cX6_adapt 30 = .ok (.iload_n 3, 1) := by decide +kernel
theorem dX6_adapt_31 : decode cX6_adapt 31 = .ok (.iconst 1, 1) := by decide +kernel
theorem dX6_adapt_32 : decode cX6_adapt 32 = .ok (.isub, 1) := by decide +kernel
theorem dX6_adapt_33 : decode cX6_adapt 33 = .ok (.invokestatic 40, 3) := by decide +kernel
theorem dX6_adapt_36 : decode cX6_adapt 36 = .ok (.invokevirtual 30, 3) := by decide +kernel
theorem dX6_adapt_39 : decode cX6_adapt 39 = .ok (.return_, 1) := by decide +kernel
set_option maxRecDepth 20000 in
theorem ggX7_init_X3_init : GoodIn wsX7_init wsX3_init := goodIn_r _ [36, 37, 2, 3, 38, 29, 30, 39, 40, 41, 42, 43, 44, 45, 46, 180, 139, 140, 141, 142] (by decide +kernel) (by decide +kernel)
set_option maxRecDepth 20000 in
theorem gX7_init_X3_init_n11 : GoodIn wsX7_init (wsX3_init) := ggX7_init_X3_init
set_option maxRecDepth 20000 in
theorem ggX7_init_X4_init : GoodIn wsX7_init wsX4_init := goodIn_r _ [49, 50, 2, 3, 51, 29, 30, 52, 53, 54, 55, 56, 57, 58, 59, 60, 61, 42, 43, 44, 45, 46, 180, 155, 156, 157, 158, 159, 160, 161, 162, 163, 164, 165] (by decide +kernel) (by decide +kernel)
set_option maxRecDepth 20000 in
theorem gX7_init_X4_init : GoodIn wsX7_init (wsX4_init) := ggX7_init_X4_init
set_option maxRecDepth 20000 in
theorem ggX7_init_X0_init : GoodIn wsX7_init wsX0_init := goodIn_r _ [63, 64, 2, 3, 65, 29, 30, 66, 67, 68, 42, 43, 44, 45, 46, 180, 166, 167, 168] (by decide +kernel) (by decide +kernel)
set_option maxRecDepth 20000 in
theorem gX7_init_X0_init_n27 : GoodIn wsX7_init (wsX0_init) := ggX7_init_X0_init
set_option maxRecDepth 20000 in
theorem ggX7_init_X2_init : GoodIn wsX7_init wsX2_init := goodIn_r _ [70, 71, 2, 3, 72, 29, 30, 73, 74, 75, 42, 43, 44, 45, 46, 180, 169, 170, 171, 172] (by decide +kernel) (by decide +kernel)
set_option maxRecDepth 20000 in
theorem gX7_init_X2_init_n34 : GoodIn wsX7_init (wsX2_init) := ggX7_init_X2_init
set_option maxRecDepth 20000 in
theorem ggX7_init_X6_init : GoodIn wsX7_init wsX6_init := goodIn_r _ [77, 78, 2, 3, 79, 29, 30, 80, 81, 82, 42, 43, 44, 45, 46, 180, 173, 174] (by decide +kernel) (by decide +kernel)
set_option maxRecDepth 20000 in
theorem gX7_init_X6_init_n41 : GoodIn wsX7_init (wsX6_init) := ggX7_init_X6_init
set_option maxRecDepth 20000 in
theorem ggX7_init_X1_init : GoodIn wsX7_init wsX1_init := goodIn_r _ [85, 86, 2, 3, 87, 29, 30, 88, 89, 90, 91, 92, 93, 42, 43, 44, 45, 46, 180, 175, 176, 177, 178, 179] (by decide +kernel) (by decide +kernel)
set_option maxRecDepth 20000 in
theorem gX7_init_X1_init : GoodIn wsX7_init (wsX1_init) := ggX7_init_X1_init
set_option maxRecDepth 20000 in
theorem ggX7_init_X5_init : GoodIn wsX7_init wsX5_init := goodIn_r _ [43, 44, 2, 3, 45, 46, 180] (by decide +kernel) (by decide +kernel)
set_option maxRecDepth 20000 in
theorem gX7_init_X5_init : GoodIn wsX7_init (wsX5_init) := ggX7_init_X5_init
set_option maxRecDepth 20000 in
theorem ggX7_init_X7_layAnew : GoodIn wsX7_init wsX7_layAnew := goodIn_r _ [99, 7, 11, 15, 19, 23, 31, 32, 100, 101, 102, 103, 6, 104, 105, 106, 39, 40, 107, 108, 109, 30, 110, 46, 111, 112, 113, 10, 114, 115, 116, 117, 118, 119, 14, 120, 121, 67, 122, 123, 124, 125, 126, 127, 128, 18, 129, 130, 73, 74, 131, 132, 133, 134, 135, 22, 136, 80, 81, 137, 138, 143, 144, 145, 146, 147, 148, 149, 150, 151, 152, 153, 154, 139, 140, 141, 142, 180, 155, 156, 157, 158, 159, 160, 161, 162, 163, 164, 165, 166, 167, 168, 169, 170, 171, 172, 173, 174] (by decide +kernel) (by decide +kernel)
set_option maxRecDepth 20000 in
theorem gX7_init_X7_layAnew : GoodIn wsX7_init (wsV RX7 73 RX7 yX7_layAnew wsX7_layAnew) := goodIn_app (goodIn_of _ (by decide +kernel)) ggX7_init_X7_layAnew
theorem dX7_init_0 : decode cX7_init 0 = .ok (.aload_n 0, 1) := by decide +kernel
theorem dX7_init_1 : decode cX7_init 1 = .ok (.invokespecial 3, 3) := by decide +kernel
theorem dX7_init_4 : decode cX7_init 4 = .ok (.aload_n 0, 1) := by decide +kernel
theorem dX7_init_5 : decode cX7_init 5 = .ok (.new 9, 3) := by decide +kernel
theorem dX7_init_8 : decode cX7_init 8 = .ok (.dup, 1) := by decide +kernel
theorem dX7_init_9 : decode cX7_init 9 = .ok (.invokespecial 11, 3) := by decide +kernel
theorem dX7_init_12 : decode cX7_init 12 = .ok (.putfield 12, 3) := by decide +kernel
theorem dX7_init_15 : decode cX7_init 15 = .ok (.aload_n 0, 1) := by decide +kernel
theorem dX7_init_16 : decode cX7_init 16 = .ok (.new 16, 3) := by decide +kernel
theorem dX7_init_19 : decode cX7_init 19 = .ok (.dup, 1) := by decide +kernel
theorem dX7_init_20 : decode cX7_init 20 = .ok (.aload_n 0, 1) := by decide +kernel
theorem dX7_init_21 : decode cX7_init 21 = .ok (.getfield 12, 3) := by decide +kernel
theorem dX7_init_24 : decode cX7_init 24 = .ok (.invokespecial 18, 3) := by decide +kernel
theorem dX7_init_27 : decode cX7_init 27 = .ok (.putfield 21, 3) := by decide +kernel
theorem dX7_init_30 : decode cX7_init 30 = .ok (.aload_n 0, 1) := by decide +kernel
theorem dX7_init_31 : decode cX7_init 31 = .ok (.new 25, 3) := by decide +kernel
theorem dX7_init_34 : decode cX7_init 34 = .ok (.dup, 1) := by decide +kernel
theorem dX7_init_35 : decode cX7_init 35 = .ok (.invokespecial 27, 3) := by decide +kernel
theorem dX7_init_38 : decode cX7_init 38 = .ok (.putfield 28, 3) := by decide +kernel
theorem dX7_init_41 : decode cX7_init 41 = .ok (.aload_n 0, 1) := by decide +kernel
theorem dX7_init_42 : decode cX7_init 42 = .ok (.new 32, 3) := by decide +kernel
theorem dX7_init_45 : decode cX7_init 45 = .ok (.dup, 1) := by decide +kernel
theorem dX7_init_46 : decode cX7_init 46 = .ok (.invokespecial 34, 3) := by decide +kernel
theorem dX7_init_49 : decode cX7_init 49 = .ok (.putfield 35, 3) := by decide +kernel
theorem dX7_init_52 : decode cX7_init 52 = .ok (.aload_n 0, 1) := by decide +kernel
theorem dX7_init_53 : decode cX7_init 53 = .ok (.new 39, 3) := by decide +kernel
theorem dX7_init_56 : decode cX7_init 56 = .ok (.dup, 1) := by decide +kernel
theorem dX7_init_57 : decode cX7_init 57 = .ok (.invokespecial 41, 3) := by decide +kernel
theorem dX7_init_60 : decode cX7_init 60 = .ok (.putfield 42, 3) := by decide +kernel
theorem dX7_init_63 : decode cX7_init 63 = .ok (.aload_n 0, 1) := by decide +kernel
theorem dX7_init_64 : decode cX7_init 64 = .ok (.new 46, 3) := by decide +kernel
theorem dX7_init_67 : decode cX7_init 67 = .ok (.dup, 1) := by decide +kernel
theorem dX7_init_68 : decode cX7_init 68 = .ok (.aload_n 0, 1) := by decide +kernel
theorem dX7_init_69 : decode cX7_init 69 = .ok (.getfield 12, 3) := by decide +kernel
theorem dX7_init_72 : decode cX7_init 72 = .ok (.aload_n 0, 1) := by decide +kernel
theorem dX7_init_73 : decode cX7_init 73 = .ok (.getfield 21, 3) := by decide +kernel
theorem dX7_init_76 : decode cX7_init 76 = .ok (.aload_n 0, 1) := by decide +kernel
theorem dX7_init_77 : decode cX7_init 77 = .ok (.getfield 28, 3) := by decide +kernel
theorem dX7_init_80 : decode cX7_init 80 = .ok (.invokespecial 48, 3) := by decide +kernel
theorem dX7_init_83 : decode cX7_init 83 = .ok (.putfield 51, 3) := by decide +kernel
theorem dX7_init_86 : decode cX7_init 86 = .ok (.aload_n 0, 1) := by decide +kernel
theorem dX7_init_87 : decode cX7_init 87 = .ok (.new 55, 3) := by decide +kernel
theorem dX7_init_90 : decode cX7_init 90 = .ok (.dup, 1) := by decide +kernel
theorem dX7_init_91 : decode cX7_init 91 = .ok (.bipush 16, 2) := by decide +kernel
theorem dX7_init_93 : decode cX7_init 93 = .ok (.invokespecial 57, 3) := by decide +kernel
theorem dX7_init_96 : decode cX7_init 96 = .ok (.putfield 60, 3) := by decide +kernel
theorem dX7_init_99 : decode cX7_init 99 = .ok (.aload_n 0, 1) := by decide +kernel
theorem dX7_init_100 : decode cX7_init 100 = .ok (.new 55, 3) := by decide +kernel
theorem dX7_init_103 : decode cX7_init 103 = .ok (.dup, 1) := by decide +kernel
theorem dX7_init_104 : decode cX7_init 104 = .ok (.bipush 80, 2) := by decide +kernel
theorem dX7_init_106 : decode cX7_init 106 = .ok (.invokespecial 57, 3) := by decide +kernel
theorem dX7_init_109 : decode cX7_init 109 = .ok (.putfield 64, 3) := by decide +kernel
theorem dX7_init_112 : decode cX7_init 112 = .ok (.aload_n 0, 1) := by decide +kernel
theorem dX7_init_113 : decode cX7_init 113 = .ok (.new 55, 3) := by decide +kernel
theorem dX7_init_116 : decode cX7_init 116 = .ok (.dup, 1) := by decide +kernel
theorem dX7_init_117 : decode cX7_init 117 = .ok (.iconst 5, 1) := by decide +kernel
theorem dX7_init_118 : decode cX7_init 118 = .ok (.invokespecial 57, 3) := by decide +kernel
theorem dX7_init_121 : decode cX7_init 121 = .ok (.putfield 67, 3) := by decide +kernel
theorem dX7_init_124 : decode cX7_init 124 = .ok (.aload_n 0, 1) := by decide +kernel
theorem dX7_init_125 : decode cX7_init 125 = .ok (.new 55, 3) := by decide +kernel
theorem dX7_init_128 : decode cX7_init 128 = .ok (.dup, 1) := by decide +kernel
theorem dX7_init_129 : decode cX7_init 129 = .ok (.bipush 80, 2) := by decide +kernel
theorem dX7_init_131 : decode cX7_init 131 = .ok (.invokespecial 57, 3) := by decide +kernel
theorem dX7_init_134 : decode cX7_init 134 = .ok (.putfield 70, 3) := by decide +kernel
theorem dX7_init_137 : decode cX7_init 137 = .ok (.aload_n 0, 1) := by decide +kernel
theorem dX7_init_138 : decode cX7_init 138 = .ok (.iconst 2, 1) := by decide +kernel
theorem dX7_init_139 : decode cX7_init 139 = .ok (.iconst 2, 1) := by decide +kernel
theorem dX7_init_140 : decode cX7_init 140 = .ok (.iconst 1, 1) := by decide +kernel
theorem dX7_init_141 : decode cX7_init 141 = .ok (.iconst 0, 1) := by decide +kernel
theorem dX7_init_142 : decode cX7_init 142 = .ok (.invokevirtual 73, 3) := by decide +kernel
theorem dX7_init_145 : decode cX7_init 145 = .ok (.return_, 1) := by decide +kernel
set_option maxRecDepth 20000 in
theorem ggX7_begin_X7_layAnew : GoodIn wsX7_begin wsX7_layAnew := goodIn_r _ [8, 3, 9, 10, 11, 12, 13, 14, 15, 16, 17, 18, 19, 20, 21, 22, 23, 24, 25, 26, 27, 28, 29, 30, 31, 32, 33, 34, 35, 36, 37, 38, 39, 40, 41, 42, 43, 44, 45, 46, 47, 48, 49, 50, 51, 52, 53, 54, 55, 56, 57, 58, 59, 60, 61, 62, 63, 64, 65, 66, 67, 72, 73, 74, 75, 76, 77, 78, 79, 80, 81, 82, 83, 84, 85, 86, 87, 88, 89, 90, 91, 92, 93, 94, 95, 96, 97, 98, 99, 100, 101, 102, 103, 104, 105, 106, 107, 108] (by decide +kernel) (by decide +kernel)
set_option maxRecDepth 20000 in
theorem gX7_begin_X7_layAnew : GoodIn wsX7_begin (wsV RX7 73 RX7 yX7_layAnew wsX7_layAnew) := goodIn_app (goodIn_of _ (by decide +kernel)) ggX7_begin_X7_layAnew
set_option maxRecDepth 20000 in
theorem ggX7_begin_X3_size : GoodIn wsX7_begin wsX3_size := goodIn_r _ [71, 21, 22, 84, 85, 86, 87] (by decide +kernel) (by decide +kernel)
set_option maxRecDepth 20000 in
theorem gX7_begin_X3_size : GoodIn wsX7_begin (wsV RX7 88 RX3 yX3_size wsX3_size) := goodIn_app (goodIn_of _ (by decide +kernel)) ggX7_begin_X3_size
theorem dX7_begin_0 : decode cX7_begin 0 = .ok (.iload_n 1, 1) := by decide +kernel
theorem dX7_begin_1 : decode cX7_begin 1 = .ok (.iconst 2, 1) := by decide +kernel
theorem dX7_begin_2 : decode cX7_begin 2 = .ok (.if_icmp .lt 18, 3) := by decide +kernel
theorem dX7_begin_5 : decode cX7_begin 5 = .ok (.iload_n 1, 1) := by decide +kernel
theorem dX7_begin_6 : decode cX7_begin 6 = .ok (.iconst 4, 1) := by decide +kernel
theorem dX7_begin_7 : decode cX7_begin 7 = .ok (.if_icmp .gt 13, 3) := by decide +kernel
theorem dX7_begin_10 : decode cX7_begin 10 = .ok (.iload_n 2, 1) := by decide +kernel
theorem dX7_begin_11 : decode cX7_begin 11 = .ok (.iconst 2, 1) := by decide +kernel
theorem dX7_begin_12 : decode cX7_begin 12 = .ok (.if_icmp .lt 8, 3) := by decide +kernel
theorem dX7_begin_15 : decode cX7_begin 15 = .ok (.iload_n 2, 1) := by decide +kernel
theorem dX7_begin_16 : decode cX7_begin 16 = .ok (.iconst 4, 1) := by decide +kernel
theorem dX7_begin_17 : decode cX7_begin 17 = .ok (.if_icmp .le 13, 3) := by decide +kernel
theorem dX7_begin_20 : decode cX7_begin 20 = .ok (.new 77, 3) := by decide +kernel
theorem dX7_begin_23 : decode cX7_begin 23 = .ok (.dup, 1) := by decide +kernel
theorem dX7_begin_24 : decode cX7_begin 24 = .ok (.ldc 79, 2) := by decide +kernel
theorem dX7_begin_26 : decode cX7_begin 26 = .ok (.invokespecial 81, 3) := by decide +kernel
theorem dX7_begin_29 : decode cX7_begin 29 = .ok (.athrow, 1) := by decide +kernel
theorem dX7_begin_30 : decode cX7_begin 30 = .ok (.iload_n 3, 1) := by decide +kernel
theorem dX7_begin_31 : decode cX7_begin 31 = .ok (.iconst 1, 1) := by decide +kernel
theorem dX7_begin_32 : decode cX7_begin 32 = .ok (.if_icmp .lt 8, 3) := by decide +kernel
theorem dX7_begin_35 : decode cX7_begin 35 = .ok (.iload_n 3, 1) := by decide +kernel
theorem dX7_begin_36 : decode cX7_begin 36 = .ok (.iconst 3, 1) := by decide +kernel
theorem dX7_begin_37 : decode cX7_begin 37 = .ok (.if_icmp .le 13, 3) := by decide +kernel
theorem dX7_begin_40 : decode cX7_begin 40 = .ok (.new 77, 3) := by decide +kernel
theorem dX7_begin_43 : decode cX7_begin 43 = .ok (.dup, 1) := by decide +kernel
theorem dX7_begin_44 : decode cX7_begin 44 = .ok (.ldc 84, 2) := by decide +kernel
theorem dX7_begin_46 : decode cX7_begin 46 = .ok (.invokespecial 81, 3) := by decide +kernel
theorem dX7_begin_49 : decode cX7_begin 49 = .ok (.athrow, 1) := by decide +kernel
theorem dX7_begin_50 : decode cX7_begin 50 = .ok (.iload 4, 2) := by decide +kernel
theorem dX7_begin_52 : decode cX7_begin 52 = .ok (.ifCond .lt 9, 3) := by decide +kernel
theorem dX7_begin_55 : decode cX7_begin 55 = .ok (.iload 4, 2) := by decide +kernel
theorem dX7_begin_57 : decode cX7_begin 57 = .ok (.iconst 3, 1) := by decide +kernel
theorem dX7_begin_58 : decode cX7_begin 58 = .ok (.if_icmp .le 13, 3) := by decide +kernel
theorem dX7_begin_61 : decode cX7_begin 61 = .ok (.new 77, 3) := by decide +kernel
theorem dX7_begin_64 : decode cX7_begin 64 = .ok (.dup, 1) := by decide +kernel
theorem dX7_begin_65 : decode cX7_begin 65 = .ok (.ldc 86, 2) := by decide +kernel
theorem dX7_begin_67 : decode cX7_begin 67 = .ok (.invokespecial 81, 3) := by decide +kernel
theorem dX7_begin_70 : decode cX7_begin 70 = .ok (.athrow, 1) := by decide +kernel
theorem dX7_begin_71 : decode cX7_begin 71 = .ok (.aload_n 0, 1) := by decide +kernel
theorem dX7_begin_72 : decode cX7_begin 72 = .ok (.iload_n 1, 1) := by decide +kernel
theorem dX7_begin_73 : decode cX7_begin 73 = .ok (.iload_n 2, 1) := by decide +kernel
theorem dX7_begin_74 : decode cX7_begin 74 = .ok (.iload_n 3, 1) := by decide +kernel
theorem dX7_begin_75 : decode cX7_begin 75 = .ok (.iload 4, 2) := by decide +kernel
theorem dX7_begin_77 : decode cX7_begin 77 = .ok (.invokevirtual 73, 3) := by decide +kernel
theorem dX7_begin_80 : decode cX7_begin 80 = .ok (.aload_n 0, 1) := by decide +kernel
theorem dX7_begin_81 : decode cX7_begin 81 = .ok (.getfield 12, 3) := by decide +kernel
theorem dX7_begin_84 : decode cX7_begin 84 = .ok (.invokevirtual 88, 3) := by decide +kernel
theorem dX7_begin_87 : decode cX7_begin 87 = .ok (.ireturn, 1) := by decide +kernel
set_option maxRecDepth 20000 in
theorem ggX7_send_X7_checkSwitch : GoodIn wsX7_send wsX7_checkSwitch := goodIn_ca (goodIn_r _ [13, 14, 15, 16, 17, 18, 19, 20, 21, 22, 23, 24, 25, 26, 27, 91, 92, 93, 94, 95, 96, 97, 98, 99, 100, 101, 102, 114, 115, 116, 117] (by decide +kernel) (by decide +kernel)) (goodIn_sub (fun _ h => List.mem_cons_of_mem _ (List.mem_append_right _ h)) (by decide +kernel))
set_option maxRecDepth 20000 in
theorem gX7_send_X7_checkSwitch : GoodIn wsX7_send (wsV RX7 92 RX7 yX7_checkSwitch wsX7_checkSwitch) := goodIn_app (goodIn_of _ (by decide +kernel)) ggX7_send_X7_checkSwitch
set_option maxRecDepth 20000 in
theorem ggX7_send_X7_checkLane : GoodIn wsX7_send wsX7_checkLane := goodIn_ca (goodIn_r _ [30, 1, 2] (by decide +kernel) (by decide +kernel)) (goodIn_sub (fun _ h => List.mem_cons_of_mem _ (List.mem_append_left _ (List.mem_append_left _ (List.mem_append_right _ h)))) (by decide +kernel))
set_option maxRecDepth 20000 in
theorem gX7_send_X7_checkLane : GoodIn wsX7_send (va_wsS RX7 97 yX7_checkLane wsX7_checkLane) := goodIn_app (goodIn_of _ (by decide +kernel)) ggX7_send_X7_checkLane
set_option maxRecDepth 20000 in
theorem ggX7_send_X7_bufferOf : GoodIn wsX7_send wsX7_bufferOf := goodIn_r _ [33] (by decide +kernel) (by decide +kernel)
set_option maxRecDepth 20000 in
theorem gX7_send_X7_bufferOf : GoodIn wsX7_send (va_wsS RX7 102 yX7_bufferOf wsX7_bufferOf) := goodIn_app (goodIn_of _ (by decide +kernel)) ggX7_send_X7_bufferOf
set_option maxRecDepth 20000 in
theorem ggX7_send_X0_isFull : GoodIn wsX7_send wsX0_isFull := goodIn_r _ [38, 39, 40, 41, 42, 43, 44, 45, 46, 118, 119, 120, 121] (by decide +kernel) (by decide +kernel)
set_option maxRecDepth 20000 in
theorem gX7_send_X0_isFull : GoodIn wsX7_send (wsV RX7 106 RX0 yX0_isFull wsX0_isFull) := goodIn_app (goodIn_of _ (by decide +kernel)) ggX7_send_X0_isFull
set_option maxRecDepth 20000 in
theorem ggX7_send_X6_isReady : GoodIn wsX7_send wsX6_isReady := goodIn_r _ [51, 52, 53, 54, 42, 43, 44, 45, 46, 122, 123, 121] (by decide +kernel) (by decide +kernel)
set_option maxRecDepth 20000 in
theorem gX7_send_X6_isReady : GoodIn wsX7_send (wsV RX7 119 RX6 yX6_isReady wsX6_isReady) := goodIn_app (goodIn_of _ (by decide +kernel)) ggX7_send_X6_isReady
set_option maxRecDepth 20000 in
theorem ggX7_send_X4_add : GoodIn wsX7_send wsX4_add := goodIn_r _ [59, 60, 61, 62, 63, 64, 65, 66, 67, 68, 69, 70, 71, 44, 72, 46, 103, 104, 105, 106, 107, 108, 109, 110, 111, 112, 113, 121] (by decide +kernel) (by decide +kernel)
set_option maxRecDepth 20000 in
theorem gX7_send_X4_add : GoodIn wsX7_send (wsV RX7 130 RX4 yX4_add wsX4_add) := goodIn_app (goodIn_of _ (by decide +kernel)) ggX7_send_X4_add
set_option maxRecDepth 20000 in
theorem ggX7_send_X0_append : GoodIn wsX7_send wsX0_append := goodIn_r _ [76, 77, 39, 78, 35, 36, 37, 38, 40, 41, 42, 43, 44, 45, 46, 79, 70, 71, 72, 80, 81, 82, 83, 84, 85, 118, 119, 120, 121] (by decide +kernel) (by decide +kernel)
set_option maxRecDepth 20000 in
theorem gX7_send_X0_append : GoodIn wsX7_send (wsV RX7 134 RX0 yX0_append wsX0_append) := goodIn_app (goodIn_of _ (by decide +kernel)) ggX7_send_X0_append
set_option maxRecDepth 20000 in
theorem ggX7_send_X6_note : GoodIn wsX7_send wsX6_note := goodIn_r _ [89, 52, 90, 70, 71, 44, 72, 46, 122, 123, 121] (by decide +kernel) (by decide +kernel)
set_option maxRecDepth 20000 in
theorem gX7_send_X6_note : GoodIn wsX7_send (wsV RX7 138 RX6 yX6_note wsX6_note) := goodIn_app (goodIn_of _ (by decide +kernel)) ggX7_send_X6_note
theorem dX7_send_0 : decode cX7_send 0 = .ok (.aload_n 0, 1) := by decide +kernel
theorem dX7_send_1 : decode cX7_send 1 = .ok (.iload_n 1, 1) := by decide +kernel
theorem dX7_send_2 : decode cX7_send 2 = .ok (.invokevirtual 92, 3) := by decide +kernel
theorem dX7_send_5 : decode cX7_send 5 = .ok (.aload_n 0, 1) := by decide +kernel
theorem dX7_send_6 : decode cX7_send 6 = .ok (.iload_n 2, 1) := by decide +kernel
theorem dX7_send_7 : decode cX7_send 7 = .ok (.invokevirtual 92, 3) := by decide +kernel
theorem dX7_send_10 : decode cX7_send 10 = .ok (.iload_n 1, 1) := by decide +kernel
theorem dX7_send_11 : decode cX7_send 11 = .ok (.iload_n 2, 1) := by decide +kernel
theorem dX7_send_12 : decode cX7_send 12 = .ok (.if_icmp .ne 13, 3) := by decide +kernel
theorem dX7_send_15 : decode cX7_send 15 = .ok (.new 77, 3) := by decide +kernel
theorem dX7_send_18 : decode cX7_send 18 = .ok (.dup, 1) := by decide +kernel
theorem dX7_send_19 : decode cX7_send 19 = .ok (.ldc 95, 2) := by decide +kernel
theorem dX7_send_21 : decode cX7_send 21 = .ok (.invokespecial 81, 3) := by decide +kernel
theorem dX7_send_24 : decode cX7_send 24 = .ok (.athrow, 1) := by decide +kernel
theorem dX7_send_25 : decode cX7_send 25 = .ok (.iload_n 3, 1) := by decide +kernel
theorem dX7_send_26 : decode cX7_send 26 = .ok (.invokestatic 97, 3) := by decide +kernel
theorem dX7_send_29 : decode cX7_send 29 = .ok (.iload 4, 2) := by decide +kernel
theorem dX7_send_31 : decode cX7_send 31 = .ok (.ifCond .eq 19, 3) := by decide +kernel
theorem dX7_send_34 : decode cX7_send 34 = .ok (.iload 4, 2) := by decide +kernel
theorem dX7_send_36 : decode cX7_send 36 = .ok (.iconst 1, 1) := by decide +kernel
theorem dX7_send_37 : decode cX7_send 37 = .ok (.if_icmp .eq 13, 3) := by decide +kernel
theorem dX7_send_40 : decode cX7_send 40 = .ok (.new 77, 3) := by decide +kernel
theorem dX7_send_43 : decode cX7_send 43 = .ok (.dup, 1) := by decide +kernel
theorem dX7_send_44 : decode cX7_send 44 = .ok (.ldc 100, 2) := by decide +kernel
theorem dX7_send_46 : decode cX7_send 46 = .ok (.invokespecial 81, 3) := by decide +kernel
theorem dX7_send_49 : decode cX7_send 49 = .ok (.athrow, 1) := by decide +kernel
theorem dX7_send_50 : decode cX7_send 50 = .ok (.iload_n 1, 1) := by decide +kernel
theorem dX7_send_51 : decode cX7_send 51 = .ok (.iconst 4, 1) := by decide +kernel
theorem dX7_send_52 : decode cX7_send 52 = .ok (.iload_n 3, 1) := by decide +kernel
theorem dX7_send_53 : decode cX7_send 53 = .ok (.invokestatic 102, 3) := by decide +kernel
theorem dX7_send_56 : decode cX7_send 56 = .ok (.istore 5, 2) := by decide +kernel
theorem dX7_send_58 : decode cX7_send 58 = .ok (.aload_n 0, 1) := by decide +kernel
theorem dX7_send_59 : decode cX7_send 59 = .ok (.getfield 28, 3) := by decide +kernel
theorem dX7_send_62 : decode cX7_send 62 = .ok (.iload 5, 2) := by decide +kernel
theorem dX7_send_64 : decode cX7_send 64 = .ok (.invokevirtual 106, 3) := by decide +kernel
theorem dX7_send_67 : decode cX7_send 67 = .ok (.ifCond .eq 13, 3) := by decide +kernel
theorem dX7_send_70 : decode cX7_send 70 = .ok (.new 110, 3) := by decide +kernel
theorem dX7_send_73 : decode cX7_send 73 = .ok (.dup, 1) := by decide +kernel
theorem dX7_send_74 : decode cX7_send 74 = .ok (.ldc 112, 2) := by decide +kernel
theorem dX7_send_76 : decode cX7_send 76 = .ok (.invokespecial 114, 3) := by decide +kernel
theorem dX7_send_79 : decode cX7_send 79 = .ok (.athrow, 1) := by decide +kernel
theorem dX7_send_80 : decode cX7_send 80 = .ok (.aload_n 0, 1) := by decide +kernel
theorem dX7_send_81 : decode cX7_send 81 = .ok (.getfield 42, 3) := by decide +kernel
theorem dX7_send_84 : decode cX7_send 84 = .ok (.iload_n 1, 1) := by decide +kernel
theorem dX7_send_85 : decode cX7_send 85 = .ok (.aload_n 0, 1) := by decide +kernel
theorem dX7_send_86 : decode cX7_send 86 = .ok (.getfield 115, 3) := by decide +kernel
theorem dX7_send_89 : decode cX7_send 89 = .ok (.invokevirtual 119, 3) := by decide +kernel
theorem dX7_send_92 : decode cX7_send 92 = .ok (.ifCond .ne 13, 3) := by decide +kernel
theorem dX7_send_95 : decode cX7_send 95 = .ok (.new 110, 3) := by decide +kernel
theorem dX7_send_98 : decode cX7_send 98 = .ok (.dup, 1) := by decide +kernel
theorem dX7_send_99 : decode cX7_send 99 = .ok (.ldc 123, 2) := by decide +kernel
theorem dX7_send_101 : decode cX7_send 101 = .ok (.invokespecial 114, 3) := by decide +kernel
theorem dX7_send_104 : decode cX7_send 104 = .ok (.athrow, 1) := by decide +kernel
theorem dX7_send_105 : decode cX7_send 105 = .ok (.aload_n 0, 1) := by decide +kernel
theorem dX7_send_106 : decode cX7_send 106 = .ok (.getfield 21, 3) := by decide +kernel
theorem dX7_send_109 : decode cX7_send 109 = .ok (.getfield 125, 3) := by decide +kernel
theorem dX7_send_112 : decode cX7_send 112 = .ok (.bipush 80, 2) := by decide +kernel
theorem dX7_send_114 : decode cX7_send 114 = .ok (.if_icmp .lt 13, 3) := by decide +kernel
theorem dX7_send_117 : decode cX7_send 117 = .ok (.new 110, 3) := by decide +kernel
theorem dX7_send_120 : decode cX7_send 120 = .ok (.dup, 1) := by decide +kernel
theorem dX7_send_121 : decode cX7_send 121 = .ok (.ldc 128, 2) := by decide +kernel
theorem dX7_send_123 : decode cX7_send 123 = .ok (.invokespecial 114, 3) := by decide +kernel
theorem dX7_send_126 : decode cX7_send 126 = .ok (.athrow, 1) := by decide +kernel
theorem dX7_send_127 : decode cX7_send 127 = .ok (.aload_n 0, 1) := by decide +kernel
theorem dX7_send_128 : decode cX7_send 128 = .ok (.getfield 21, 3) := by decide +kernel
theorem dX7_send_131 : decode cX7_send 131 = .ok (.iload_n 1, 1) := by decide +kernel
theorem dX7_send_132 : decode cX7_send 132 = .ok (.iload_n 2, 1) := by decide +kernel
theorem dX7_send_133 : decode cX7_send 133 = .ok (.iload_n 3, 1) := by decide +kernel
theorem dX7_send_134 : decode cX7_send 134 = .ok (.iload 4, 2) := by decide +kernel
theorem dX7_send_136 : decode cX7_send 136 = .ok (.invokevirtual 130, 3) := by decide +kernel
theorem dX7_send_139 : decode cX7_send 139 = .ok (.istore 6, 2) := by decide +kernel
theorem dX7_send_141 : decode cX7_send 141 = .ok (.aload_n 0, 1) := by decide +kernel
theorem dX7_send_142 : decode cX7_send 142 = .ok (.getfield 28, 3) := by decide +kernel
theorem dX7_send_145 : decode cX7_send 145 = .ok (.iload 5, 2) := by decide +kernel
theorem dX7_send_147 : decode cX7_send 147 = .ok (.iload 6, 2) := by decide +kernel
theorem dX7_send_149 : decode cX7_send 149 = .ok (.invokevirtual 134, 3) := by decide +kernel
theorem dX7_send_152 : decode cX7_send 152 = .ok (.aload_n 0, 1) := by decide +kernel
theorem dX7_send_153 : decode cX7_send 153 = .ok (.getfield 42, 3) := by decide +kernel
theorem dX7_send_156 : decode cX7_send 156 = .ok (.iload_n 1, 1) := by decide +kernel
theorem dX7_send_157 : decode cX7_send 157 = .ok (.aload_n 0, 1) := by decide +kernel
theorem dX7_send_158 : decode cX7_send 158 = .ok (.getfield 115, 3) := by decide +kernel
theorem dX7_send_161 : decode cX7_send 161 = .ok (.invokevirtual 138, 3) := by decide +kernel
theorem dX7_send_164 : decode cX7_send 164 = .ok (.iload 6, 2) := by decide +kernel
theorem dX7_send_166 : decode cX7_send 166 = .ok (.ireturn, 1) := by decide +kernel
set_option maxRecDepth 20000 in
theorem ggX7_run_X7_runOne : GoodIn wsX7_run wsX7_runOne := goodIn_r _ [8, 9, 10, 11, 12, 13, 14, 15, 16, 17, 18, 19, 20, 21, 22, 23, 24, 25, 26, 27, 28, 29, 30, 31, 32, 33, 34, 35, 36, 37, 38, 39, 40, 41, 42, 43, 44, 45, 46, 47, 48, 49, 50, 7, 51, 52, 53, 3, 54, 55, 56, 57, 58, 59, 60, 61, 62, 63, 64, 65, 66, 67, 68, 69, 70, 71, 72, 73, 74, 75, 76, 77, 78, 79, 80, 81, 82, 83, 84, 85, 86, 87, 88, 89, 90, 91, 92, 93, 94, 95, 96, 97, 98, 99, 100, 101, 102, 103, 104, 105, 106, 107, 108, 109, 110, 111, 112, 113, 114, 115, 116, 117, 118, 119, 120, 121, 122, 123, 124, 125, 126, 127, 128, 129, 130, 131, 132, 133, 134, 135, 136, 137, 138, 139, 140, 141, 142, 143, 144, 145, 146, 147, 148, 149, 150, 151, 152, 153, 154, 155, 156, 157, 158, 159, 160, 161, 162, 163, 164, 165, 166, 167, 168, 169, 170, 171, 172, 173, 174, 175, 176, 177, 178, 179, 180, 181, 182, 183, 184, 185, 197, 198, 199, 200, 201, 202, 203, 204, 205, 186, 187, 188, 189, 190, 191, 192, 193, 194, 195, 196, 206, 207, 208, 209, 210] (by decide +kernel) (by decide +kernel)
set_option maxRecDepth 20000 in
theorem gX7_run_X7_runOne : GoodIn wsX7_run (wsV RX7 146 RX7 yX7_runOne wsX7_runOne) := goodIn_app (goodIn_of _ (by decide +kernel)) ggX7_run_X7_runOne
theorem dX7_run_0 : decode cX7_run 0 = .ok (.iload_n 1, 1) := by decide +kernel
theorem dX7_run_1 : decode cX7_run 1 = .ok (.iconst 1, 1) := by decide +kernel
theorem dX7_run_2 : decode cX7_run 2 = .ok (.if_icmp .lt 9, 3) := by decide +kernel
theorem dX7_run_5 : decode cX7_run 5 = .ok (.iload_n 1, 1) := by decide +kernel
theorem dX7_run_6 : decode cX7_run 6 = .ok (.bipush 50, 2) := by decide +kernel
theorem dX7_run_8 : decode cX7_run 8 = .ok (.if_icmp .le 13, 3) := by decide +kernel
theorem dX7_run_11 : decode cX7_run 11 = .ok (.new 77, 3) := by decide +kernel
theorem dX7_run_14 : decode cX7_run 14 = .ok (.dup, 1) := by decide +kernel
theorem dX7_run_15 : decode cX7_run 15 = .ok (.ldc 141, 2) := by decide +kernel
theorem dX7_run_17 : decode cX7_run 17 = .ok (.invokespecial 81, 3) := by decide +kernel
theorem dX7_run_20 : decode cX7_run 20 = .ok (.athrow, 1) := by decide +kernel
theorem dX7_run_21 : decode cX7_run 21 = .ok (.aload_n 0, 1) := by decide +kernel
theorem dX7_run_22 : decode cX7_run 22 = .ok (.getfield 21, 3) := by decide +kernel
theorem dX7_run_25 : decode cX7_run 25 = .ok (.getfield 143, 3) := by decide +kernel
theorem dX7_run_28 : decode cX7_run 28 = .ok (.istore_n 2, 1) := by decide +kernel
theorem dX7_run_29 : decode cX7_run 29 = .ok (.iconst 0, 1) := by decide +kernel
theorem dX7_run_30 : decode cX7_run 30 = .ok (.istore_n 3, 1) := by decide +kernel
theorem dX7_run_31 : decode cX7_run 31 = .ok (.iload_n 3, 1) := by decide +kernel
theorem dX7_run_32 : decode cX7_run 32 = .ok (.iload_n 1, 1) := by decide +kernel
theorem dX7_run_33 : decode cX7_run 33 = .ok (.if_icmp .ge 13, 3) := by decide +kernel
theorem dX7_run_36 : decode cX7_run 36 = .ok (.aload_n 0, 1) := by decide +kernel
theorem dX7_run_37 : decode cX7_run 37 = .ok (.invokevirtual 146, 3) := by decide +kernel
theorem dX7_run_40 : decode cX7_run 40 = .ok (.iinc 3 1, 3) := by decide +kernel
theorem dX7_run_43 : decode cX7_run 43 = .ok (.goto (-12), 3) := by decide +kernel
theorem dX7_run_46 : decode cX7_run 46 = .ok (.aload_n 0, 1) := by decide +kernel
theorem dX7_run_47 : decode cX7_run 47 = .ok (.getfield 21, 3) := by decide +kernel
theorem dX7_run_50 : decode cX7_run 50 = .ok (.getfield 143, 3) := by decide +kernel
theorem dX7_run_53 : decode cX7_run 53 = .ok (.iload_n 2, 1) := by decide +kernel
theorem dX7_run_54 : decode cX7_run 54 = .ok (.isub, 1) := by decide +kernel
theorem dX7_run_55 : decode cX7_run 55 = .ok (.ireturn, 1) := by decide +kernel
set_option maxRecDepth 20000 in
theorem ggX7_pause_X7_checkSwitch : GoodIn wsX7_pause wsX7_checkSwitch := goodIn_ca (goodIn_r _ [6, 7, 8, 9, 10, 11, 12, 13, 14, 15, 16, 17, 18, 19, 20, 31, 32, 33, 34, 35, 36, 37, 38, 39, 40, 41, 42, 43, 44, 45, 46] (by decide +kernel) (by decide +kernel)) (goodIn_sub (fun _ h => List.mem_cons_of_mem _ (List.mem_append_right _ h)) (by decide +kernel))
set_option maxRecDepth 20000 in
theorem gX7_pause_X7_checkSwitch : GoodIn wsX7_pause (wsV RX7 92 RX7 yX7_checkSwitch wsX7_checkSwitch) := goodIn_app (goodIn_of _ (by decide +kernel)) ggX7_pause_X7_checkSwitch
set_option maxRecDepth 20000 in
theorem ggX7_pause_X5_at : GoodIn wsX7_pause wsX5_at := goodIn_r _ [25, 26, 47] (by decide +kernel) (by decide +kernel)
set_option maxRecDepth 20000 in
theorem gX7_pause_X5_at : GoodIn wsX7_pause (wsV RX7 149 RX5 yX5_at wsX5_at) := goodIn_app (goodIn_of _ (by decide +kernel)) ggX7_pause_X5_at
set_option maxRecDepth 20000 in
theorem ggX7_pause_X5_put : GoodIn wsX7_pause wsX5_put := goodIn_r _ [30, 26, 47] (by decide +kernel) (by decide +kernel)
set_option maxRecDepth 20000 in
theorem gX7_pause_X5_put : GoodIn wsX7_pause (wsV RX7 153 RX5 yX5_put wsX5_put) := goodIn_app (goodIn_of _ (by decide +kernel)) ggX7_pause_X5_put
theorem dX7_pause_0 : decode cX7_pause 0 = .ok (.aload_n 0, 1) := by decide +kernel
theorem dX7_pause_1 : decode cX7_pause 1 = .ok (.iload_n 1, 1) := by decide +kernel
theorem dX7_pause_2 : decode cX7_pause 2 = .ok (.invokevirtual 92, 3) := by decide +kernel
theorem dX7_pause_5 : decode cX7_pause 5 = .ok (.aload_n 0, 1) := by decide +kernel
theorem dX7_pause_6 : decode cX7_pause 6 = .ok (.getfield 60, 3) := by decide +kernel
theorem dX7_pause_9 : decode cX7_pause 9 = .ok (.iload_n 1, 1) := by decide +kernel
theorem dX7_pause_10 : decode cX7_pause 10 = .ok (.invokevirtual 149, 3) := by decide +kernel
theorem dX7_pause_13 : decode cX7_pause 13 = .ok (.ifCond .eq 7, 3) := by decide +kernel
theorem dX7_pause_16 : decode cX7_pause 16 = .ok (.iconst 1, 1) := by decide +kernel
theorem dX7_pause_17 : decode cX7_pause 17 = .ok (.goto 4, 3) := by decide +kernel
theorem dX7_pause_20 : decode cX7_pause 20 = .ok (.iconst 0, 1) := by decide +kernel
theorem dX7_pause_21 : decode cX7_pause 21 = .ok (.istore_n 3, 1) := by decide +kernel
theorem dX7_pause_22 : decode cX7_pause 22 = .ok (.aload_n 0, 1) := by decide +kernel
theorem dX7_pause_23 : decode cX7_pause 23 = .ok (.getfield 60, 3) := by decide +kernel
theorem dX7_pause_26 : decode cX7_pause 26 = .ok (.iload_n 1, 1) := by decide +kernel
theorem dX7_pause_27 : decode cX7_pause 27 = .ok (.iload_n 2, 1) := by decide +kernel
theorem dX7_pause_28 : decode cX7_pause 28 = .ok (.ifCond .eq 7, 3) := by decide +kernel
theorem dX7_pause_31 : decode cX7_pause 31 = .ok (.iconst 1, 1) := by decide +kernel
theorem dX7_pause_32 : decode cX7_pause 32 = .ok (.goto 4, 3) := by decide +kernel
theorem dX7_pause_35 : decode cX7_pause 35 = .ok (.iconst 0, 1) := by decide +kernel
theorem dX7_pause_36 : decode cX7_pause 36 = .ok (.invokevirtual 153, 3) := by decide +kernel
theorem dX7_pause_39 : decode cX7_pause 39 = .ok (.iload_n 3, 1) := by decide +kernel
theorem dX7_pause_40 : decode cX7_pause 40 = .ok (.ireturn, 1) := by decide +kernel
set_option maxRecDepth 20000 in
theorem ggX7_lose_X7_checkLink : GoodIn wsX7_lose wsX7_checkLink := goodIn_ca (goodIn_r _ [8, 9, 10, 11, 12, 13, 14, 7, 15, 16, 17, 18, 19, 20, 21, 22, 23, 24, 25, 26, 27, 28, 29, 30, 31, 32, 33, 34, 35, 36, 37, 38, 71, 72, 73, 74, 75, 76, 77, 78, 79, 80, 81, 82, 83, 84, 85, 86, 87] (by decide +kernel) (by decide +kernel)) (goodIn_sub (fun _ h => List.mem_cons_of_mem _ (List.mem_append_left _ (List.mem_append_right _ h))) (by decide +kernel))
set_option maxRecDepth 20000 in
theorem gX7_lose_X7_checkLink : GoodIn wsX7_lose (wsV RX7 156 RX7 yX7_checkLink wsX7_checkLink) := goodIn_app (goodIn_of _ (by decide +kernel)) ggX7_lose_X7_checkLink
set_option maxRecDepth 20000 in
theorem ggX7_lose_X7_checkLane : GoodIn wsX7_lose wsX7_checkLane := goodIn_ca (goodIn_r _ [41, 42, 43] (by decide +kernel) (by decide +kernel)) (goodIn_sub (fun _ h => List.mem_cons_of_mem _ (List.mem_append_right _ h)) (by decide +kernel))
set_option maxRecDepth 20000 in
theorem gX7_lose_X7_checkLane : GoodIn wsX7_lose (va_wsS RX7 97 yX7_checkLane wsX7_checkLane) := goodIn_app (goodIn_of _ (by decide +kernel)) ggX7_lose_X7_checkLane
set_option maxRecDepth 20000 in
theorem ggX7_lose_X7_bufferBehind : GoodIn wsX7_lose wsX7_bufferBehind := goodIn_r _ [47, 11, 27, 28, 29, 19, 30, 31, 25, 32, 26, 33, 34, 35, 36, 37, 38, 48, 49, 7, 50, 71, 72, 73, 74, 75, 76, 77, 78, 79, 80, 81, 82, 83, 84, 85, 86, 87] (by decide +kernel) (by decide +kernel)
set_option maxRecDepth 20000 in
theorem gX7_lose_X7_bufferBehind : GoodIn wsX7_lose (wsV RX7 159 RX7 yX7_bufferBehind wsX7_bufferBehind) := goodIn_app (goodIn_of _ (by decide +kernel)) ggX7_lose_X7_bufferBehind
set_option maxRecDepth 20000 in
theorem ggX7_lose_X2_there : GoodIn wsX7_lose wsX2_there := goodIn_r _ [55, 56, 57, 34, 35, 36, 37, 38, 88, 89, 90, 91, 87] (by decide +kernel) (by decide +kernel)
set_option maxRecDepth 20000 in
theorem gX7_lose_X2_there : GoodIn wsX7_lose (wsV RX7 162 RX2 yX2_there wsX2_there) := goodIn_app (goodIn_of _ (by decide +kernel)) ggX7_lose_X2_there
set_option maxRecDepth 20000 in
theorem ggX7_lose_X2_take : GoodIn wsX7_lose wsX2_take := goodIn_r _ [61, 56, 62, 63, 64, 36, 65, 66, 34, 35, 37, 38, 67, 68, 69, 70, 88, 89, 90, 91, 87] (by decide +kernel) (by decide +kernel)
set_option maxRecDepth 20000 in
theorem gX7_lose_X2_take : GoodIn wsX7_lose (wsV RX7 167 RX2 yX2_take wsX2_take) := goodIn_app (goodIn_of _ (by decide +kernel)) ggX7_lose_X2_take
theorem dX7_lose_0 : decode cX7_lose 0 = .ok (.aload_n 0, 1) := by decide +kernel
theorem dX7_lose_1 : decode cX7_lose 1 = .ok (.iload_n 1, 1) := by decide +kernel
theorem dX7_lose_2 : decode cX7_lose 2 = .ok (.iload_n 2, 1) := by decide +kernel
theorem dX7_lose_3 : decode cX7_lose 3 = .ok (.invokevirtual 156, 3) := by decide +kernel
theorem dX7_lose_6 : decode cX7_lose 6 = .ok (.iload_n 3, 1) := by decide +kernel
theorem dX7_lose_7 : decode cX7_lose 7 = .ok (.invokestatic 97, 3) := by decide +kernel
theorem dX7_lose_10 : decode cX7_lose 10 = .ok (.aload_n 0, 1) := by decide +kernel
theorem dX7_lose_11 : decode cX7_lose 11 = .ok (.iload_n 1, 1) := by decide +kernel
theorem dX7_lose_12 : decode cX7_lose 12 = .ok (.iload_n 2, 1) := by decide +kernel
theorem dX7_lose_13 : decode cX7_lose 13 = .ok (.iload_n 3, 1) := by decide +kernel
theorem dX7_lose_14 : decode cX7_lose 14 = .ok (.invokevirtual 159, 3) := by decide +kernel
theorem dX7_lose_17 : decode cX7_lose 17 = .ok (.istore 4, 2) := by decide +kernel
theorem dX7_lose_19 : decode cX7_lose 19 = .ok (.aload_n 0, 1) := by decide +kernel
theorem dX7_lose_20 : decode cX7_lose 20 = .ok (.getfield 35, 3) := by decide +kernel
theorem dX7_lose_23 : decode cX7_lose 23 = .ok (.iload 4, 2) := by decide +kernel
theorem dX7_lose_25 : decode cX7_lose 25 = .ok (.invokevirtual 162, 3) := by decide +kernel
theorem dX7_lose_28 : decode cX7_lose 28 = .ok (.ifCond .gt 13, 3) := by decide +kernel
theorem dX7_lose_31 : decode cX7_lose 31 = .ok (.new 110, 3) := by decide +kernel
theorem dX7_lose_34 : decode cX7_lose 34 = .ok (.dup, 1) := by decide +kernel
theorem dX7_lose_35 : decode cX7_lose 35 = .ok (.ldc 165, 2) := by decide +kernel
theorem dX7_lose_37 : decode cX7_lose 37 = .ok (.invokespecial 114, 3) := by decide +kernel
theorem dX7_lose_40 : decode cX7_lose 40 = .ok (.athrow, 1) := by decide +kernel
theorem dX7_lose_41 : decode cX7_lose 41 = .ok (.aload_n 0, 1) := by decide +kernel
theorem dX7_lose_42 : decode cX7_lose 42 = .ok (.getfield 35, 3) := by decide +kernel
theorem dX7_lose_45 : decode cX7_lose 45 = .ok (.iload 4, 2) := by decide +kernel
theorem dX7_lose_47 : decode cX7_lose 47 = .ok (.invokevirtual 167, 3) := by decide +kernel
theorem dX7_lose_50 : decode cX7_lose 50 = .ok (.aload_n 0, 1) := by decide +kernel
theorem dX7_lose_51 : decode cX7_lose 51 = .ok (.getfield 35, 3) := by decide +kernel
theorem dX7_lose_54 : decode cX7_lose 54 = .ok (.iload 4, 2) := by decide +kernel
theorem dX7_lose_56 : decode cX7_lose 56 = .ok (.invokevirtual 162, 3) := by decide +kernel
theorem dX7_lose_59 : decode cX7_lose 59 = .ok (.ireturn, 1) := by decide +kernel
set_option maxRecDepth 20000 in
theorem ggX7_recover_X3_size : GoodIn wsX7_recover wsX3_size := goodIn_r _ [8, 9, 10, 51, 52, 53, 54] (by decide +kernel) (by decide +kernel)
set_option maxRecDepth 20000 in
theorem gX7_recover_X3_size : GoodIn wsX7_recover (wsV RX7 88 RX3 yX3_size wsX3_size) := goodIn_app (goodIn_of _ (by decide +kernel)) ggX7_recover_X3_size
set_option maxRecDepth 20000 in
theorem ggX7_recover_X0_free : GoodIn wsX7_recover wsX0_free := goodIn_r _ [15, 16, 17, 18, 19, 20, 21, 22, 23, 55, 56, 57, 58] (by decide +kernel) (by decide +kernel)
set_option maxRecDepth 20000 in
theorem gX7_recover_X0_free : GoodIn wsX7_recover (wsV RX7 170 RX0 yX0_free wsX0_free) := goodIn_app (goodIn_of _ (by decide +kernel)) ggX7_recover_X0_free
set_option maxRecDepth 20000 in
theorem ggX7_recover_X2_settle : GoodIn wsX7_recover wsX2_settle := goodIn_r _ [28, 29, 30, 31, 32, 27, 33, 34, 19, 20, 21, 22, 23, 35, 36, 37, 38, 59, 60, 61, 62, 58] (by decide +kernel) (by decide +kernel)
set_option maxRecDepth 20000 in
theorem gX7_recover_X2_settle : GoodIn wsX7_recover (wsV RX7 173 RX2 yX2_settle wsX2_settle) := goodIn_app (goodIn_of _ (by decide +kernel)) ggX7_recover_X2_settle
theorem dX7_recover_0 : decode cX7_recover 0 = .ok (.iconst 0, 1) := by decide +kernel
theorem dX7_recover_1 : decode cX7_recover 1 = .ok (.istore_n 1, 1) := by decide +kernel
theorem dX7_recover_2 : decode cX7_recover 2 = .ok (.iconst 0, 1) := by decide +kernel
theorem dX7_recover_3 : decode cX7_recover 3 = .ok (.istore_n 2, 1) := by decide +kernel
theorem dX7_recover_4 : decode cX7_recover 4 = .ok (.iload_n 2, 1) := by decide +kernel
theorem dX7_recover_5 : decode cX7_recover 5 = .ok (.aload_n 0, 1) := by decide +kernel
theorem dX7_recover_6 : decode cX7_recover 6 = .ok (.getfield 12, 3) := by decide +kernel
theorem dX7_recover_9 : decode cX7_recover 9 = .ok (.invokevirtual 88, 3) := by decide +kernel
theorem dX7_recover_12 : decode cX7_recover 12 = .ok (.if_icmp .ge 52, 3) := by decide +kernel
theorem dX7_recover_15 : decode cX7_recover 15 = .ok (.iconst 0, 1) := by decide +kernel
theorem dX7_recover_16 : decode cX7_recover 16 = .ok (.istore_n 3, 1) := by decide +kernel
theorem dX7_recover_17 : decode cX7_recover 17 = .ok (.iload_n 3, 1) := by decide +kernel
theorem dX7_recover_18 : decode cX7_recover 18 = .ok (.bipush 8, 2) := by decide +kernel
theorem dX7_recover_20 : decode cX7_recover 20 = .ok (.if_icmp .ge 38, 3) := by decide +kernel
theorem dX7_recover_23 : decode cX7_recover 23 = .ok (.iload_n 2, 1) := by decide +kernel
theorem dX7_recover_24 : decode cX7_recover 24 = .ok (.bipush 10, 2) := by decide +kernel
theorem dX7_recover_26 : decode cX7_recover 26 = .ok (.imul, 1) := by decide +kernel
theorem dX7_recover_27 : decode cX7_recover 27 = .ok (.iload_n 3, 1) := by decide +kernel
theorem dX7_recover_28 : decode cX7_recover 28 = .ok (.iadd, 1) := by decide +kernel
theorem dX7_recover_29 : decode cX7_recover 29 = .ok (.istore 4, 2) := by decide +kernel
theorem dX7_recover_31 : decode cX7_recover 31 = .ok (.iload_n 1, 1) := by decide +kernel
theorem dX7_recover_32 : decode cX7_recover 32 = .ok (.aload_n 0, 1) := by decide +kernel
theorem dX7_recover_33 : decode cX7_recover 33 = .ok (.getfield 35, 3) := by decide +kernel
theorem dX7_recover_36 : decode cX7_recover 36 = .ok (.iload 4, 2) := by decide +kernel
theorem dX7_recover_38 : decode cX7_recover 38 = .ok (.aload_n 0, 1) := by decide +kernel
theorem dX7_recover_39 : decode cX7_recover 39 = .ok (.getfield 28, 3) := by decide +kernel
theorem dX7_recover_42 : decode cX7_recover 42 = .ok (.iload 4, 2) := by decide +kernel
theorem dX7_recover_44 : decode cX7_recover 44 = .ok (.invokevirtual 170, 3) := by decide +kernel
theorem dX7_recover_47 : decode cX7_recover 47 = .ok (.invokevirtual 173, 3) := by decide +kernel
theorem dX7_recover_50 : decode cX7_recover 50 = .ok (.iadd, 1) := by decide +kernel
theorem dX7_recover_51 : decode cX7_recover 51 = .ok (.istore_n 1, 1) := by decide +kernel
theorem dX7_recover_52 : decode cX7_recover 52 = .ok (.iinc 3 1, 3) := by decide +kernel
theorem dX7_recover_55 : decode cX7_recover 55 = .ok (.goto (-38), 3) := by decide +kernel
theorem dX7_recover_58 : decode cX7_recover 58 = .ok (.iinc 2 1, 3) := by decide +kernel
theorem dX7_recover_61 : decode cX7_recover 61 = .ok (.goto (-57), 3) := by decide +kernel
theorem dX7_recover_64 : decode cX7_recover 64 = .ok (.iload_n 1, 1) := by decide +kernel
theorem dX7_recover_65 : decode cX7_recover 65 = .ok (.ireturn, 1) := by decide +kernel
theorem dX7_tick_0 : decode cX7_tick 0 = .ok (.aload_n 0, 1) := by decide +kernel
theorem dX7_tick_1 : decode cX7_tick 1 = .ok (.getfield 115, 3) := by decide +kernel
theorem dX7_tick_4 : decode cX7_tick 4 = .ok (.ireturn, 1) := by decide +kernel
theorem dX7_packets_0 : decode cX7_packets 0 = .ok (.aload_n 0, 1) := by decide +kernel
theorem dX7_packets_1 : decode cX7_packets 1 = .ok (.getfield 21, 3) := by decide +kernel
theorem dX7_packets_4 : decode cX7_packets 4 = .ok (.getfield 125, 3) := by decide +kernel
theorem dX7_packets_7 : decode cX7_packets 7 = .ok (.ireturn, 1) := by decide +kernel
theorem dX7_arrived_0 : decode cX7_arrived 0 = .ok (.aload_n 0, 1) := by decide +kernel
theorem dX7_arrived_1 : decode cX7_arrived 1 = .ok (.getfield 21, 3) := by decide +kernel
theorem dX7_arrived_4 : decode cX7_arrived 4 = .ok (.getfield 143, 3) := by decide +kernel
theorem dX7_arrived_7 : decode cX7_arrived 7 = .ok (.ireturn, 1) := by decide +kernel
set_option maxRecDepth 20000 in
theorem ggX7_credits_X7_checkLink : GoodIn wsX7_credits wsX7_checkLink := goodIn_ca (goodIn_r _ [6, 7, 8, 9, 10, 11, 12, 5, 13, 14, 15, 16, 17, 18, 19, 20, 21, 22, 23, 24, 25, 26, 27, 28, 29, 30, 31, 32, 33, 34, 35, 36, 56, 57, 58, 59, 60, 61, 62, 63, 64, 65, 66, 67, 68, 69, 70, 71, 72] (by decide +kernel) (by decide +kernel)) (goodIn_sub (fun _ h => List.mem_cons_of_mem _ (List.mem_append_left _ (List.mem_append_right _ h))) (by decide +kernel))
set_option maxRecDepth 20000 in
theorem gX7_credits_X7_checkLink : GoodIn wsX7_credits (wsV RX7 156 RX7 yX7_checkLink wsX7_checkLink) := goodIn_app (goodIn_of _ (by decide +kernel)) ggX7_credits_X7_checkLink
set_option maxRecDepth 20000 in
theorem ggX7_credits_X7_checkLane : GoodIn wsX7_credits wsX7_checkLane := goodIn_ca (goodIn_r _ [39, 40, 41] (by decide +kernel) (by decide +kernel)) (goodIn_sub (fun _ h => List.mem_cons_of_mem _ (List.mem_append_right _ h)) (by decide +kernel))
set_option maxRecDepth 20000 in
theorem gX7_credits_X7_checkLane : GoodIn wsX7_credits (va_wsS RX7 97 yX7_checkLane wsX7_checkLane) := goodIn_app (goodIn_of _ (by decide +kernel)) ggX7_credits_X7_checkLane
set_option maxRecDepth 20000 in
theorem ggX7_credits_X7_bufferBehind : GoodIn wsX7_credits wsX7_bufferBehind := goodIn_r _ [45, 9, 25, 26, 27, 17, 28, 29, 23, 30, 24, 31, 32, 33, 34, 35, 36, 46, 47, 5, 48, 56, 57, 58, 59, 60, 61, 62, 63, 64, 65, 66, 67, 68, 69, 70, 71, 72] (by decide +kernel) (by decide +kernel)
set_option maxRecDepth 20000 in
theorem gX7_credits_X7_bufferBehind : GoodIn wsX7_credits (wsV RX7 159 RX7 yX7_bufferBehind wsX7_bufferBehind) := goodIn_app (goodIn_of _ (by decide +kernel)) ggX7_credits_X7_bufferBehind
set_option maxRecDepth 20000 in
theorem ggX7_credits_X2_there : GoodIn wsX7_credits wsX2_there := goodIn_r _ [53, 54, 55, 32, 33, 34, 35, 36, 73, 74, 75, 76, 72] (by decide +kernel) (by decide +kernel)
set_option maxRecDepth 20000 in
theorem gX7_credits_X2_there : GoodIn wsX7_credits (wsV RX7 162 RX2 yX2_there wsX2_there) := goodIn_app (goodIn_of _ (by decide +kernel)) ggX7_credits_X2_there
theorem dX7_credits_0 : decode cX7_credits 0 = .ok (.aload_n 0, 1) := by decide +kernel
theorem dX7_credits_1 : decode cX7_credits 1 = .ok (.iload_n 1, 1) := by decide +kernel
theorem dX7_credits_2 : decode cX7_credits 2 = .ok (.iload_n 2, 1) := by decide +kernel
theorem dX7_credits_3 : decode cX7_credits 3 = .ok (.invokevirtual 156, 3) := by decide +kernel
theorem dX7_credits_6 : decode cX7_credits 6 = .ok (.iload_n 3, 1) := by decide +kernel
theorem dX7_credits_7 : decode cX7_credits 7 = .ok (.invokestatic 97, 3) := by decide +kernel
theorem dX7_credits_10 : decode cX7_credits 10 = .ok (.aload_n 0, 1) := by decide +kernel
theorem dX7_credits_11 : decode cX7_credits 11 = .ok (.getfield 35, 3) := by decide +kernel
theorem dX7_credits_14 : decode cX7_credits 14 = .ok (.aload_n 0, 1) := by decide +kernel
theorem dX7_credits_15 : decode cX7_credits 15 = .ok (.iload_n 1, 1) := by decide +kernel
theorem dX7_credits_16 : decode cX7_credits 16 = .ok (.iload_n 2, 1) := by decide +kernel
theorem dX7_credits_17 : decode cX7_credits 17 = .ok (.iload_n 3, 1) := by decide +kernel
theorem dX7_credits_18 : decode cX7_credits 18 = .ok (.invokevirtual 159, 3) := by decide +kernel
theorem dX7_credits_21 : decode cX7_credits 21 = .ok (.invokevirtual 162, 3) := by decide +kernel
theorem dX7_credits_24 : decode cX7_credits 24 = .ok (.ireturn, 1) := by decide +kernel
set_option maxRecDepth 20000 in
theorem ggX7_inBuffer_X7_checkSwitch : GoodIn wsX7_inBuffer wsX7_checkSwitch := goodIn_ca (goodIn_r _ [8, 9, 10, 11, 12, 13, 14, 15, 16, 17, 18, 19, 20, 21, 22, 41, 42, 43, 44, 45, 46, 47, 48, 49, 50, 51, 52, 53, 54, 55, 56] (by decide +kernel) (by decide +kernel)) (goodIn_sub (fun _ h => List.mem_cons_of_mem _ (List.mem_append_right _ h)) (by decide +kernel))
set_option maxRecDepth 20000 in
theorem gX7_inBuffer_X7_checkSwitch : GoodIn wsX7_inBuffer (wsV RX7 92 RX7 yX7_checkSwitch wsX7_checkSwitch) := goodIn_app (goodIn_of _ (by decide +kernel)) ggX7_inBuffer_X7_checkSwitch
set_option maxRecDepth 20000 in
theorem ggX7_inBuffer_X7_checkLane : GoodIn wsX7_inBuffer wsX7_checkLane := goodIn_ca (goodIn_r _ [25, 1, 2] (by decide +kernel) (by decide +kernel)) (goodIn_sub (fun _ h => List.mem_cons_of_mem _ (List.mem_append_left _ (List.mem_append_right _ h))) (by decide +kernel))
set_option maxRecDepth 20000 in
theorem gX7_inBuffer_X7_checkLane : GoodIn wsX7_inBuffer (va_wsS RX7 97 yX7_checkLane wsX7_checkLane) := goodIn_app (goodIn_of _ (by decide +kernel)) ggX7_inBuffer_X7_checkLane
set_option maxRecDepth 20000 in
theorem ggX7_inBuffer_X7_bufferOf : GoodIn wsX7_inBuffer wsX7_bufferOf := goodIn_r _ [28] (by decide +kernel) (by decide +kernel)
set_option maxRecDepth 20000 in
theorem gX7_inBuffer_X7_bufferOf : GoodIn wsX7_inBuffer (va_wsS RX7 102 yX7_bufferOf wsX7_bufferOf) := goodIn_app (goodIn_of _ (by decide +kernel)) ggX7_inBuffer_X7_bufferOf
set_option maxRecDepth 20000 in
theorem ggX7_inBuffer_X0_size : GoodIn wsX7_inBuffer wsX0_size := goodIn_r _ [33, 34, 35, 36, 37, 38, 39, 40, 57, 58, 59, 60] (by decide +kernel) (by decide +kernel)
set_option maxRecDepth 20000 in
theorem gX7_inBuffer_X0_size : GoodIn wsX7_inBuffer (wsV RX7 179 RX0 yX0_size wsX0_size) := goodIn_app (goodIn_of _ (by decide +kernel)) ggX7_inBuffer_X0_size
theorem dX7_inBuffer_0 : decode cX7_inBuffer 0 = .ok (.aload_n 0, 1) := by decide +kernel
theorem dX7_inBuffer_1 : decode cX7_inBuffer 1 = .ok (.iload_n 1, 1) := by decide +kernel
theorem dX7_inBuffer_2 : decode cX7_inBuffer 2 = .ok (.invokevirtual 92, 3) := by decide +kernel
theorem dX7_inBuffer_5 : decode cX7_inBuffer 5 = .ok (.iload_n 2, 1) := by decide +kernel
theorem dX7_inBuffer_6 : decode cX7_inBuffer 6 = .ok (.ifCond .lt 8, 3) := by decide +kernel
theorem dX7_inBuffer_9 : decode cX7_inBuffer 9 = .ok (.iload_n 2, 1) := by decide +kernel
theorem dX7_inBuffer_10 : decode cX7_inBuffer 10 = .ok (.iconst 4, 1) := by decide +kernel
theorem dX7_inBuffer_11 : decode cX7_inBuffer 11 = .ok (.if_icmp .le 13, 3) := by decide +kernel
theorem dX7_inBuffer_14 : decode cX7_inBuffer 14 = .ok (.new 77, 3) := by decide +kernel
theorem dX7_inBuffer_17 : decode cX7_inBuffer 17 = .ok (.dup, 1) := by decide +kernel
theorem dX7_inBuffer_18 : decode cX7_inBuffer 18 = .ok (.ldc 177, 2) := by decide +kernel
theorem dX7_inBuffer_20 : decode cX7_inBuffer 20 = .ok (.invokespecial 81, 3) := by decide +kernel
theorem dX7_inBuffer_23 : decode cX7_inBuffer 23 = .ok (.athrow, 1) := by decide +kernel
theorem dX7_inBuffer_24 : decode cX7_inBuffer 24 = .ok (.iload_n 3, 1) := by decide +kernel
theorem dX7_inBuffer_25 : decode cX7_inBuffer 25 = .ok (.invokestatic 97, 3) := by decide +kernel
theorem dX7_inBuffer_28 : decode cX7_inBuffer 28 = .ok (.aload_n 0, 1) := by decide +kernel
theorem dX7_inBuffer_29 : decode cX7_inBuffer 29 = .ok (.getfield 28, 3) := by decide +kernel
theorem dX7_inBuffer_32 : decode cX7_inBuffer 32 = .ok (.iload_n 1, 1) := by decide +kernel
theorem dX7_inBuffer_33 : decode cX7_inBuffer 33 = .ok (.iload_n 2, 1) := by decide +kernel
theorem dX7_inBuffer_34 : decode cX7_inBuffer 34 = .ok (.iload_n 3, 1) := by decide +kernel
theorem dX7_inBuffer_35 : decode cX7_inBuffer 35 = .ok (.invokestatic 102, 3) := by decide +kernel
theorem dX7_inBuffer_38 : decode cX7_inBuffer 38 = .ok (.invokevirtual 179, 3) := by decide +kernel
theorem dX7_inBuffer_41 : decode cX7_inBuffer 41 = .ok (.ireturn, 1) := by decide +kernel
set_option maxRecDepth 20000 in
theorem ggX7_gap_X7_checkSwitch : GoodIn wsX7_gap wsX7_checkSwitch := goodIn_ca (goodIn_r _ [6, 7, 8, 9, 10, 11, 12, 13, 14, 15, 16, 17, 18, 19, 20, 33, 34, 35, 36, 37, 38, 39, 40, 41, 42, 43, 44, 45, 46, 47, 48] (by decide +kernel) (by decide +kernel)) (goodIn_sub (fun _ h => List.mem_cons_of_mem _ (List.mem_append_right _ h)) (by decide +kernel))
set_option maxRecDepth 20000 in
theorem gX7_gap_X7_checkSwitch : GoodIn wsX7_gap (wsV RX7 92 RX7 yX7_checkSwitch wsX7_checkSwitch) := goodIn_app (goodIn_of _ (by decide +kernel)) ggX7_gap_X7_checkSwitch
set_option maxRecDepth 20000 in
theorem ggX7_gap_X6_gapOf : GoodIn wsX7_gap wsX6_gapOf := goodIn_r _ [25, 26, 27, 28, 29, 30, 31, 32, 49, 50, 51] (by decide +kernel) (by decide +kernel)
set_option maxRecDepth 20000 in
theorem gX7_gap_X6_gapOf : GoodIn wsX7_gap (wsV RX7 181 RX6 yX6_gapOf wsX6_gapOf) := goodIn_app (goodIn_of _ (by decide +kernel)) ggX7_gap_X6_gapOf
theorem dX7_gap_0 : decode cX7_gap 0 = .ok (.aload_n 0, 1) := by decide +kernel
theorem dX7_gap_1 : decode cX7_gap 1 = .ok (.iload_n 1, 1) := by decide +kernel
theorem dX7_gap_2 : decode cX7_gap 2 = .ok (.invokevirtual 92, 3) := by decide +kernel
theorem dX7_gap_5 : decode cX7_gap 5 = .ok (.aload_n 0, 1) := by decide +kernel
theorem dX7_gap_6 : decode cX7_gap 6 = .ok (.getfield 42, 3) := by decide +kernel
theorem dX7_gap_9 : decode cX7_gap 9 = .ok (.iload_n 1, 1) := by decide +kernel
theorem dX7_gap_10 : decode cX7_gap 10 = .ok (.invokevirtual 181, 3) := by decide +kernel
theorem dX7_gap_13 : decode cX7_gap 13 = .ok (.ireturn, 1) := by decide +kernel
set_option maxRecDepth 20000 in
theorem ggX7_placeOf_X7_checkPacket : GoodIn wsX7_placeOf wsX7_checkPacket := goodIn_ca (goodIn_r _ [6, 7, 8, 1, 15, 16, 17, 18, 19, 20, 21, 22, 23, 24, 25, 26, 27, 28, 29, 30, 31, 32, 33, 34, 35, 36, 37] (by decide +kernel) (by decide +kernel)) (goodIn_sub (fun _ h => List.mem_cons_of_mem _ (List.mem_append_right _ h)) (by decide +kernel))
set_option maxRecDepth 20000 in
theorem gX7_placeOf_X7_checkPacket : GoodIn wsX7_placeOf (wsV RX7 184 RX7 yX7_checkPacket wsX7_checkPacket) := goodIn_app (goodIn_of _ (by decide +kernel)) ggX7_placeOf_X7_checkPacket
set_option maxRecDepth 20000 in
theorem ggX7_placeOf_X5_at : GoodIn wsX7_placeOf wsX5_at := goodIn_r _ [13, 14, 38] (by decide +kernel) (by decide +kernel)
set_option maxRecDepth 20000 in
theorem gX7_placeOf_X5_at : GoodIn wsX7_placeOf (wsV RX7 149 RX5 yX5_at wsX5_at) := goodIn_app (goodIn_of _ (by decide +kernel)) ggX7_placeOf_X5_at
theorem dX7_placeOf_0 : decode cX7_placeOf 0 = .ok (.aload_n 0, 1) := by decide +kernel
theorem dX7_placeOf_1 : decode cX7_placeOf 1 = .ok (.iload_n 1, 1) := by decide +kernel
theorem dX7_placeOf_2 : decode cX7_placeOf 2 = .ok (.invokevirtual 184, 3) := by decide +kernel
theorem dX7_placeOf_5 : decode cX7_placeOf 5 = .ok (.aload_n 0, 1) := by decide +kernel
theorem dX7_placeOf_6 : decode cX7_placeOf 6 = .ok (.getfield 21, 3) := by decide +kernel
theorem dX7_placeOf_9 : decode cX7_placeOf 9 = .ok (.getfield 187, 3) := by decide +kernel
theorem dX7_placeOf_12 : decode cX7_placeOf 12 = .ok (.iload_n 1, 1) := by decide +kernel
theorem dX7_placeOf_13 : decode cX7_placeOf 13 = .ok (.invokevirtual 149, 3) := by decide +kernel
theorem dX7_placeOf_16 : decode cX7_placeOf 16 = .ok (.ireturn, 1) := by decide +kernel
set_option maxRecDepth 20000 in
theorem ggX7_hops_X7_checkPacket : GoodIn wsX7_hops wsX7_checkPacket := goodIn_ca (goodIn_r _ [6, 7, 8, 1, 15, 16, 17, 18, 19, 20, 21, 22, 23, 24, 25, 26, 27, 28, 29, 30, 31, 32, 33, 34, 35, 36, 37] (by decide +kernel) (by decide +kernel)) (goodIn_sub (fun _ h => List.mem_cons_of_mem _ (List.mem_append_right _ h)) (by decide +kernel))
set_option maxRecDepth 20000 in
theorem gX7_hops_X7_checkPacket : GoodIn wsX7_hops (wsV RX7 184 RX7 yX7_checkPacket wsX7_checkPacket) := goodIn_app (goodIn_of _ (by decide +kernel)) ggX7_hops_X7_checkPacket
set_option maxRecDepth 20000 in
theorem ggX7_hops_X5_at : GoodIn wsX7_hops wsX5_at := goodIn_r _ [13, 14, 38] (by decide +kernel) (by decide +kernel)
set_option maxRecDepth 20000 in
theorem gX7_hops_X5_at : GoodIn wsX7_hops (wsV RX7 149 RX5 yX5_at wsX5_at) := goodIn_app (goodIn_of _ (by decide +kernel)) ggX7_hops_X5_at
theorem dX7_hops_0 : decode cX7_hops 0 = .ok (.aload_n 0, 1) := by decide +kernel
theorem dX7_hops_1 : decode cX7_hops 1 = .ok (.iload_n 1, 1) := by decide +kernel
theorem dX7_hops_2 : decode cX7_hops 2 = .ok (.invokevirtual 184, 3) := by decide +kernel
theorem dX7_hops_5 : decode cX7_hops 5 = .ok (.aload_n 0, 1) := by decide +kernel
theorem dX7_hops_6 : decode cX7_hops 6 = .ok (.getfield 21, 3) := by decide +kernel
