theorem dX0_init_0 : decode cX0_init 0 = .ok (.aload_n 0, 1) := by decide +kernel
theorem dX0_init_1 : decode cX0_init 1 = .ok (.invokespecial 3, 3) := by decide +kernel
theorem dX0_init_4 : decode cX0_init 4 = .ok (.aload_n 0, 1) := by decide +kernel
theorem dX0_init_5 : decode cX0_init 5 = .ok (.sipush 151, 3) := by decide +kernel
theorem dX0_init_8 : decode cX0_init 8 = .ok (.newarray .int, 2) := by decide +kernel
theorem dX0_init_10 : decode cX0_init 10 = .ok (.putfield 9, 3) := by decide +kernel
theorem dX0_init_13 : decode cX0_init 13 = .ok (.aload_n 0, 1) := by decide +kernel
theorem dX0_init_14 : decode cX0_init 14 = .ok (.sipush 151, 3) := by decide +kernel
theorem dX0_init_17 : decode cX0_init 17 = .ok (.newarray .int, 2) := by decide +kernel
theorem dX0_init_19 : decode cX0_init 19 = .ok (.putfield 15, 3) := by decide +kernel
theorem dX0_init_22 : decode cX0_init 22 = .ok (.aload_n 0, 1) := by decide +kernel
theorem dX0_init_23 : decode cX0_init 23 = .ok (.sipush 151, 3) := by decide +kernel
theorem dX0_init_26 : decode cX0_init 26 = .ok (.newarray .boolean, 2) := by decide +kernel
theorem dX0_init_28 : decode cX0_init 28 = .ok (.putfield 18, 3) := by decide +kernel
theorem dX0_init_31 : decode cX0_init 31 = .ok (.aload_n 0, 1) := by decide +kernel
theorem dX0_init_32 : decode cX0_init 32 = .ok (.iconst 0, 1) := by decide +kernel
theorem dX0_init_33 : decode cX0_init 33 = .ok (.putfield 22, 3) := by decide +kernel
theorem dX0_init_36 : decode cX0_init 36 = .ok (.return_, 1) := by decide +kernel
theorem dX0_opened_0 : decode cX0_opened 0 = .ok (.aload_n 0, 1) := by decide +kernel
theorem dX0_opened_1 : decode cX0_opened 1 = .ok (.getfield 22, 3) := by decide +kernel
theorem dX0_opened_4 : decode cX0_opened 4 = .ok (.ireturn, 1) := by decide +kernel
theorem dX0_isFull_0 : decode cX0_isFull 0 = .ok (.aload_n 0, 1) := by decide +kernel
theorem dX0_isFull_1 : decode cX0_isFull 1 = .ok (.getfield 22, 3) := by decide +kernel
theorem dX0_isFull_4 : decode cX0_isFull 4 = .ok (.sipush 150, 3) := by decide +kernel
theorem dX0_isFull_7 : decode cX0_isFull 7 = .ok (.if_icmp .ne 7, 3) := by decide +kernel
theorem dX0_isFull_10 : decode cX0_isFull 10 = .ok (.iconst 1, 1) := by decide +kernel
theorem dX0_isFull_11 : decode cX0_isFull 11 = .ok (.goto 4, 3) := by decide +kernel
theorem dX0_isFull_14 : decode cX0_isFull 14 = .ok (.iconst 0, 1) := by decide +kernel
theorem dX0_isFull_15 : decode cX0_isFull 15 = .ok (.ireturn, 1) := by decide +kernel
theorem dX0_exists_0 : decode cX0_exists 0 = .ok (.iload_n 1, 1) := by decide +kernel
theorem dX0_exists_1 : decode cX0_exists 1 = .ok (.iconst 1, 1) := by decide +kernel
theorem dX0_exists_2 : decode cX0_exists 2 = .ok (.if_icmp .lt 15, 3) := by decide +kernel
theorem dX0_exists_5 : decode cX0_exists 5 = .ok (.iload_n 1, 1) := by decide +kernel
theorem dX0_exists_6 : decode cX0_exists 6 = .ok (.aload_n 0, 1) := by decide +kernel
theorem dX0_exists_7 : decode cX0_exists 7 = .ok (.getfield 22, 3) := by decide +kernel
theorem dX0_exists_10 : decode cX0_exists 10 = .ok (.if_icmp .gt 7, 3) := by decide +kernel
theorem dX0_exists_13 : decode cX0_exists 13 = .ok (.iconst 1, 1) := by decide +kernel
theorem dX0_exists_14 : decode cX0_exists 14 = .ok (.goto 4, 3) := by decide +kernel
theorem dX0_exists_17 : decode cX0_exists 17 = .ok (.iconst 0, 1) := by decide +kernel
theorem dX0_exists_18 : decode cX0_exists 18 = .ok (.ireturn, 1) := by decide +kernel
set_option maxRecDepth 20000 in
theorem ggX0_isActive_X0_exists : GoodIn wsX0_isActive wsX0_exists := goodIn_r _ [6, 7, 8, 9, 10, 11] (by decide +kernel) (by decide +kernel)
set_option maxRecDepth 20000 in
theorem gX0_isActive_X0_exists : GoodIn wsX0_isActive (wsV RX0 26 RX0 yX0_exists wsX0_exists) := goodIn_app (goodIn_of _ (by decide +kernel)) ggX0_isActive_X0_exists
theorem dX0_isActive_0 : decode cX0_isActive 0 = .ok (.aload_n 0, 1) := by decide +kernel
theorem dX0_isActive_1 : decode cX0_isActive 1 = .ok (.iload_n 1, 1) := by decide +kernel
theorem dX0_isActive_2 : decode cX0_isActive 2 = .ok (.invokevirtual 26, 3) := by decide +kernel
theorem dX0_isActive_5 : decode cX0_isActive 5 = .ok (.ifCond .eq 16, 3) := by decide +kernel
theorem dX0_isActive_8 : decode cX0_isActive 8 = .ok (.aload_n 0, 1) := by decide +kernel
theorem dX0_isActive_9 : decode cX0_isActive 9 = .ok (.getfield 15, 3) := by decide +kernel
theorem dX0_isActive_12 : decode cX0_isActive 12 = .ok (.iload_n 1, 1) := by decide +kernel
theorem dX0_isActive_13 : decode cX0_isActive 13 = .ok (.iaload, 1) := by decide +kernel
theorem dX0_isActive_14 : decode cX0_isActive 14 = .ok (.ifCond .ne 7, 3) := by decide +kernel
theorem dX0_isActive_17 : decode cX0_isActive 17 = .ok (.iconst 1, 1) := by decide +kernel
theorem dX0_isActive_18 : decode cX0_isActive 18 = .ok (.goto 4, 3) := by decide +kernel
theorem dX0_isActive_21 : decode cX0_isActive 21 = .ok (.iconst 0, 1) := by decide +kernel
theorem dX0_isActive_22 : decode cX0_isActive 22 = .ok (.ireturn, 1) := by decide +kernel
set_option maxRecDepth 20000 in
theorem ggX0_canBeAsked_X0_isActive : GoodIn wsX0_canBeAsked wsX0_isActive := goodIn_r _ [5, 6, 7, 8, 9, 4, 10, 11, 12, 13, 14, 15] (by decide +kernel) (by decide +kernel)
set_option maxRecDepth 20000 in
theorem gX0_canBeAsked_X0_isActive : GoodIn wsX0_canBeAsked (wsV RX0 30 RX0 yX0_isActive wsX0_isActive) := goodIn_app (goodIn_of _ (by decide +kernel)) ggX0_canBeAsked_X0_isActive
theorem dX0_canBeAsked_0 : decode cX0_canBeAsked 0 = .ok (.iload_n 1, 1) := by decide +kernel
theorem dX0_canBeAsked_1 : decode cX0_canBeAsked 1 = .ok (.ifCond .eq 11, 3) := by decide +kernel
theorem dX0_canBeAsked_4 : decode cX0_canBeAsked 4 = .ok (.aload_n 0, 1) := by decide +kernel
theorem dX0_canBeAsked_5 : decode cX0_canBeAsked 5 = .ok (.iload_n 1, 1) := by decide +kernel
theorem dX0_canBeAsked_6 : decode cX0_canBeAsked 6 = .ok (.invokevirtual 30, 3) := by decide +kernel
theorem dX0_canBeAsked_9 : decode cX0_canBeAsked 9 = .ok (.ifCond .eq 7, 3) := by decide +kernel
theorem dX0_canBeAsked_12 : decode cX0_canBeAsked 12 = .ok (.iconst 1, 1) := by decide +kernel
theorem dX0_canBeAsked_13 : decode cX0_canBeAsked 13 = .ok (.goto 4, 3) := by decide +kernel
theorem dX0_canBeAsked_16 : decode cX0_canBeAsked 16 = .ok (.iconst 0, 1) := by decide +kernel
theorem dX0_canBeAsked_17 : decode cX0_canBeAsked 17 = .ok (.ireturn, 1) := by decide +kernel
theorem dX0_parentOf_0 : decode cX0_parentOf 0 = .ok (.aload_n 0, 1) := by decide +kernel
theorem dX0_parentOf_1 : decode cX0_parentOf 1 = .ok (.getfield 9, 3) := by decide +kernel
theorem dX0_parentOf_4 : decode cX0_parentOf 4 = .ok (.iload_n 1, 1) := by decide +kernel
theorem dX0_parentOf_5 : decode cX0_parentOf 5 = .ok (.iaload, 1) := by decide +kernel
theorem dX0_parentOf_6 : decode cX0_parentOf 6 = .ok (.ireturn, 1) := by decide +kernel
theorem dX0_stateOf_0 : decode cX0_stateOf 0 = .ok (.aload_n 0, 1) := by decide +kernel
theorem dX0_stateOf_1 : decode cX0_stateOf 1 = .ok (.getfield 15, 3) := by decide +kernel
theorem dX0_stateOf_4 : decode cX0_stateOf 4 = .ok (.iload_n 1, 1) := by decide +kernel
theorem dX0_stateOf_5 : decode cX0_stateOf 5 = .ok (.iaload, 1) := by decide +kernel
theorem dX0_stateOf_6 : decode cX0_stateOf 6 = .ok (.ireturn, 1) := by decide +kernel
theorem dX0_add_0 : decode cX0_add 0 = .ok (.aload_n 0, 1) := by decide +kernel
theorem dX0_add_1 : decode cX0_add 1 = .ok (.dup, 1) := by decide +kernel
theorem dX0_add_2 : decode cX0_add 2 = .ok (.getfield 22, 3) := by decide +kernel
theorem dX0_add_5 : decode cX0_add 5 = .ok (.iconst 1, 1) := by decide +kernel
theorem dX0_add_6 : decode cX0_add 6 = .ok (.iadd, 1) := by decide +kernel
theorem dX0_add_7 : decode cX0_add 7 = .ok (.putfield 22, 3) := by decide +kernel
theorem dX0_add_10 : decode cX0_add 10 = .ok (.aload_n 0, 1) := by decide +kernel
theorem dX0_add_11 : decode cX0_add 11 = .ok (.getfield 9, 3) := by decide +kernel
theorem dX0_add_14 : decode cX0_add 14 = .ok (.aload_n 0, 1) := by decide +kernel
theorem dX0_add_15 : decode cX0_add 15 = .ok (.getfield 22, 3) := by decide +kernel
theorem dX0_add_18 : decode cX0_add 18 = .ok (.iload_n 1, 1) := by decide +kernel
theorem dX0_add_19 : decode cX0_add 19 = .ok (.iastore, 1) := by decide +kernel
theorem dX0_add_20 : decode cX0_add 20 = .ok (.aload_n 0, 1) := by decide +kernel
theorem dX0_add_21 : decode cX0_add 21 = .ok (.getfield 15, 3) := by decide +kernel
theorem dX0_add_24 : decode cX0_add 24 = .ok (.aload_n 0, 1) := by decide +kernel
theorem dX0_add_25 : decode cX0_add 25 = .ok (.getfield 22, 3) := by decide +kernel
theorem dX0_add_28 : decode cX0_add 28 = .ok (.iconst 0, 1) := by decide +kernel
theorem dX0_add_29 : decode cX0_add 29 = .ok (.iastore, 1) := by decide +kernel
theorem dX0_add_30 : decode cX0_add 30 = .ok (.aload_n 0, 1) := by decide +kernel
theorem dX0_add_31 : decode cX0_add 31 = .ok (.getfield 22, 3) := by decide +kernel
theorem dX0_add_34 : decode cX0_add 34 = .ok (.ireturn, 1) := by decide +kernel
theorem dX0_end_0 : decode cX0_end 0 = .ok (.aload_n 0, 1) := by decide +kernel
theorem dX0_end_1 : decode cX0_end 1 = .ok (.getfield 15, 3) := by decide +kernel
theorem dX0_end_4 : decode cX0_end 4 = .ok (.iload_n 1, 1) := by decide +kernel
theorem dX0_end_5 : decode cX0_end 5 = .ok (.iload_n 2, 1) := by decide +kernel
theorem dX0_end_6 : decode cX0_end 6 = .ok (.iastore, 1) := by decide +kernel
theorem dX0_end_7 : decode cX0_end 7 = .ok (.return_, 1) := by decide +kernel
set_option maxRecDepth 20000 in
theorem ggX0_isLeftBehind_X0_isActive : GoodIn wsX0_isLeftBehind wsX0_isActive := goodIn_r _ [6, 7, 8, 9, 10, 5, 11, 12, 17, 18, 19, 20] (by decide +kernel) (by decide +kernel)
set_option maxRecDepth 20000 in
theorem gX0_isLeftBehind_X0_isActive : GoodIn wsX0_isLeftBehind (wsV RX0 30 RX0 yX0_isActive wsX0_isActive) := goodIn_app (goodIn_of _ (by decide +kernel)) ggX0_isLeftBehind_X0_isActive
set_option maxRecDepth 20000 in
theorem ggX0_isLeftBehind_X0_canBeAsked : GoodIn wsX0_isLeftBehind wsX0_canBeAsked := goodIn_r _ [16, 2, 3, 4, 5, 6, 7, 8, 9, 10, 11, 12, 17, 18, 19, 20] (by decide +kernel) (by decide +kernel)
set_option maxRecDepth 20000 in
theorem gX0_isLeftBehind_X0_canBeAsked : GoodIn wsX0_isLeftBehind (wsV RX0 33 RX0 yX0_canBeAsked wsX0_canBeAsked) := goodIn_app (goodIn_of _ (by decide +kernel)) ggX0_isLeftBehind_X0_canBeAsked
theorem dX0_isLeftBehind_0 : decode cX0_isLeftBehind 0 = .ok (.aload_n 0, 1) := by decide +kernel
theorem dX0_isLeftBehind_1 : decode cX0_isLeftBehind 1 = .ok (.iload_n 1, 1) := by decide +kernel
theorem dX0_isLeftBehind_2 : decode cX0_isLeftBehind 2 = .ok (.invokevirtual 30, 3) := by decide +kernel
theorem dX0_isLeftBehind_5 : decode cX0_isLeftBehind 5 = .ok (.ifCond .eq 20, 3) := by decide +kernel
theorem dX0_isLeftBehind_8 : decode cX0_isLeftBehind 8 = .ok (.aload_n 0, 1) := by decide +kernel
theorem dX0_isLeftBehind_9 : decode cX0_isLeftBehind 9 = .ok (.aload_n 0, 1) := by decide +kernel
theorem dX0_isLeftBehind_10 : decode cX0_isLeftBehind 10 = .ok (.getfield 9, 3) := by decide +kernel
theorem dX0_isLeftBehind_13 : decode cX0_isLeftBehind 13 = .ok (.iload_n 1, 1) := by decide +kernel
theorem dX0_isLeftBehind_14 : decode cX0_isLeftBehind 14 = .ok (.iaload, 1) := by decide +kernel
theorem dX0_isLeftBehind_15 : decode cX0_isLeftBehind 15 = .ok (.invokevirtual 33, 3) := by decide +kernel
theorem dX0_isLeftBehind_18 : decode cX0_isLeftBehind 18 = .ok (.ifCond .ne 7, 3) := by decide +kernel
theorem dX0_isLeftBehind_21 : decode cX0_isLeftBehind 21 = .ok (.iconst 1, 1) := by decide +kernel
theorem dX0_isLeftBehind_22 : decode cX0_isLeftBehind 22 = .ok (.goto 4, 3) := by decide +kernel
theorem dX0_isLeftBehind_25 : decode cX0_isLeftBehind 25 = .ok (.iconst 0, 1) := by decide +kernel
theorem dX0_isLeftBehind_26 : decode cX0_isLeftBehind 26 = .ok (.ireturn, 1) := by decide +kernel
theorem dX0_activeChildrenOf_0 : decode cX0_activeChildrenOf 0 = .ok (.iconst 0, 1) := by decide +kernel
theorem dX0_activeChildrenOf_1 : decode cX0_activeChildrenOf 1 = .ok (.istore_n 2, 1) := by decide +kernel
theorem dX0_activeChildrenOf_2 : decode cX0_activeChildrenOf 2 = .ok (.iload_n 1, 1) := by decide +kernel
theorem dX0_activeChildrenOf_3 : decode cX0_activeChildrenOf 3 = .ok (.iconst 1, 1) := by decide +kernel
theorem dX0_activeChildrenOf_4 : decode cX0_activeChildrenOf 4 = .ok (.iadd, 1) := by decide +kernel
theorem dX0_activeChildrenOf_5 : decode cX0_activeChildrenOf 5 = .ok (.istore_n 3, 1) := by decide +kernel
theorem dX0_activeChildrenOf_6 : decode cX0_activeChildrenOf 6 = .ok (.iload_n 3, 1) := by decide +kernel
theorem dX0_activeChildrenOf_7 : decode cX0_activeChildrenOf 7 = .ok (.aload_n 0, 1) := by decide +kernel
theorem dX0_activeChildrenOf_8 : decode cX0_activeChildrenOf 8 = .ok (.getfield 22, 3) := by decide +kernel
theorem dX0_activeChildrenOf_11 : decode cX0_activeChildrenOf 11 = .ok (.if_icmp .gt 31, 3) := by decide +kernel
theorem dX0_activeChildrenOf_14 : decode cX0_activeChildrenOf 14 = .ok (.aload_n 0, 1) := by decide +kernel
theorem dX0_activeChildrenOf_15 : decode cX0_activeChildrenOf 15 = .ok (.getfield 9, 3) := by decide +kernel
theorem dX0_activeChildrenOf_18 : decode cX0_activeChildrenOf 18 = .ok (.iload_n 3, 1) := by decide +kernel
theorem dX0_activeChildrenOf_19 : decode cX0_activeChildrenOf 19 = .ok (.iaload, 1) := by decide +kernel
theorem dX0_activeChildrenOf_20 : decode cX0_activeChildrenOf 20 = .ok (.iload_n 1, 1) := by decide +kernel
theorem dX0_activeChildrenOf_21 : decode cX0_activeChildrenOf 21 = .ok (.if_icmp .ne 15, 3) := by decide +kernel
theorem dX0_activeChildrenOf_24 : decode cX0_activeChildrenOf 24 = .ok (.aload_n 0, 1) := by decide +kernel
theorem dX0_activeChildrenOf_25 : decode cX0_activeChildrenOf 25 = .ok (.getfield 15, 3) := by decide +kernel
theorem dX0_activeChildrenOf_28 : decode cX0_activeChildrenOf 28 = .ok (.iload_n 3, 1) := by decide +kernel
theorem dX0_activeChildrenOf_29 : decode cX0_activeChildrenOf 29 = .ok (.iaload, 1) := by decide +kernel
theorem dX0_activeChildrenOf_30 : decode cX0_activeChildrenOf 30 = .ok (.ifCond .ne 6, 3) := by decide +kernel
theorem dX0_activeChildrenOf_33 : decode cX0_activeChildrenOf 33 = .ok (.iinc 2 1, 3) := by decide +kernel
theorem dX0_activeChildrenOf_36 : decode cX0_activeChildrenOf 36 = .ok (.iinc 3 1, 3) := by decide +kernel
theorem dX0_activeChildrenOf_39 : decode cX0_activeChildrenOf 39 = .ok (.goto (-33), 3) := by decide +kernel
theorem dX0_activeChildrenOf_42 : decode cX0_activeChildrenOf 42 = .ok (.iload_n 2, 1) := by decide +kernel
theorem dX0_activeChildrenOf_43 : decode cX0_activeChildrenOf 43 = .ok (.ireturn, 1) := by decide +kernel
theorem dX0_trace_0 : decode cX0_trace 0 = .ok (.iconst 0, 1) := by decide +kernel
theorem dX0_trace_1 : decode cX0_trace 1 = .ok (.istore_n 2, 1) := by decide +kernel
theorem dX0_trace_2 : decode cX0_trace 2 = .ok (.iload_n 2, 1) := by decide +kernel
theorem dX0_trace_3 : decode cX0_trace 3 = .ok (.aload_n 0, 1) := by decide +kernel
theorem dX0_trace_4 : decode cX0_trace 4 = .ok (.getfield 22, 3) := by decide +kernel
theorem dX0_trace_7 : decode cX0_trace 7 = .ok (.if_icmp .gt 25, 3) := by decide +kernel
theorem dX0_trace_10 : decode cX0_trace 10 = .ok (.aload_n 0, 1) := by decide +kernel
theorem dX0_trace_11 : decode cX0_trace 11 = .ok (.getfield 18, 3) := by decide +kernel
theorem dX0_trace_14 : decode cX0_trace 14 = .ok (.iload_n 2, 1) := by decide +kernel
theorem dX0_trace_15 : decode cX0_trace 15 = .ok (.iload_n 2, 1) := by decide +kernel
theorem dX0_trace_16 : decode cX0_trace 16 = .ok (.iload_n 1, 1) := by decide +kernel
theorem dX0_trace_17 : decode cX0_trace 17 = .ok (.if_icmp .ne 7, 3) := by decide +kernel
theorem dX0_trace_20 : decode cX0_trace 20 = .ok (.iconst 1, 1) := by decide +kernel
theorem dX0_trace_21 : decode cX0_trace 21 = .ok (.goto 4, 3) := by decide +kernel
theorem dX0_trace_24 : decode cX0_trace 24 = .ok (.iconst 0, 1) := by decide +kernel
theorem dX0_trace_25 : decode cX0_trace 25 = .ok (.bastore, 1) := by decide +kernel
theorem dX0_trace_26 : decode cX0_trace 26 = .ok (.iinc 2 1, 3) := by decide +kernel
theorem dX0_trace_29 : decode cX0_trace 29 = .ok (.goto (-27), 3) := by decide +kernel
theorem dX0_trace_32 : decode cX0_trace 32 = .ok (.iload_n 1, 1) := by decide +kernel
theorem dX0_trace_33 : decode cX0_trace 33 = .ok (.istore_n 2, 1) := by decide +kernel
theorem dX0_trace_34 : decode cX0_trace 34 = .ok (.iload_n 2, 1) := by decide +kernel
theorem dX0_trace_35 : decode cX0_trace 35 = .ok (.ifCond .le 30, 3) := by decide +kernel
theorem dX0_trace_38 : decode cX0_trace 38 = .ok (.aload_n 0, 1) := by decide +kernel
theorem dX0_trace_39 : decode cX0_trace 39 = .ok (.getfield 18, 3) := by decide +kernel
theorem dX0_trace_42 : decode cX0_trace 42 = .ok (.iload_n 2, 1) := by decide +kernel
theorem dX0_trace_43 : decode cX0_trace 43 = .ok (.baload, 1) := by decide +kernel
theorem dX0_trace_44 : decode cX0_trace 44 = .ok (.ifCond .eq 15, 3) := by decide +kernel
theorem dX0_trace_47 : decode cX0_trace 47 = .ok (.aload_n 0, 1) := by decide +kernel
theorem dX0_trace_48 : decode cX0_trace 48 = .ok (.getfield 18, 3) := by decide +kernel
theorem dX0_trace_51 : decode cX0_trace 51 = .ok (.aload_n 0, 1) := by decide +kernel
theorem dX0_trace_52 : decode cX0_trace 52 = .ok (.getfield 9, 3) := by decide +kernel
theorem dX0_trace_55 : decode cX0_trace 55 = .ok (.iload_n 2, 1) := by decide +kernel
theorem dX0_trace_56 : decode cX0_trace 56 = .ok (.iaload, 1) := by decide +kernel
theorem dX0_trace_57 : decode cX0_trace 57 = .ok (.iconst 1, 1) := by decide +kernel
theorem dX0_trace_58 : decode cX0_trace 58 = .ok (.bastore, 1) := by decide +kernel
theorem dX0_trace_59 : decode cX0_trace 59 = .ok (.iinc 2 (-1), 3) := by decide +kernel
theorem dX0_trace_62 : decode cX0_trace 62 = .ok (.goto (-28), 3) := by decide +kernel
theorem dX0_trace_65 : decode cX0_trace 65 = .ok (.return_, 1) := by decide +kernel
theorem dX0_line_0 : decode cX0_line 0 = .ok (.aload_n 0, 1) := by decide +kernel
theorem dX0_line_1 : decode cX0_line 1 = .ok (.getfield 18, 3) := by decide +kernel
theorem dX0_line_4 : decode cX0_line 4 = .ok (.areturn, 1) := by decide +kernel
theorem dX1_init_0 : decode cX1_init 0 = .ok (.aload_n 0, 1) := by decide +kernel
theorem dX1_init_1 : decode cX1_init 1 = .ok (.invokespecial 3, 3) := by decide +kernel
theorem dX1_init_4 : decode cX1_init 4 = .ok (.aload_n 0, 1) := by decide +kernel
theorem dX1_init_5 : decode cX1_init 5 = .ok (.sipush 512, 3) := by decide +kernel
theorem dX1_init_8 : decode cX1_init 8 = .ok (.newarray .int, 2) := by decide +kernel
theorem dX1_init_10 : decode cX1_init 10 = .ok (.putfield 9, 3) := by decide +kernel
theorem dX1_init_13 : decode cX1_init 13 = .ok (.aload_n 0, 1) := by decide +kernel
theorem dX1_init_14 : decode cX1_init 14 = .ok (.sipush 512, 3) := by decide +kernel
theorem dX1_init_17 : decode cX1_init 17 = .ok (.newarray .int, 2) := by decide +kernel
theorem dX1_init_19 : decode cX1_init 19 = .ok (.putfield 15, 3) := by decide +kernel
theorem dX1_init_22 : decode cX1_init 22 = .ok (.aload_n 0, 1) := by decide +kernel
theorem dX1_init_23 : decode cX1_init 23 = .ok (.sipush 512, 3) := by decide +kernel
theorem dX1_init_26 : decode cX1_init 26 = .ok (.newarray .int, 2) := by decide +kernel
theorem dX1_init_28 : decode cX1_init 28 = .ok (.putfield 18, 3) := by decide +kernel
theorem dX1_init_31 : decode cX1_init 31 = .ok (.aload_n 0, 1) := by decide +kernel
theorem dX1_init_32 : decode cX1_init 32 = .ok (.iconst 0, 1) := by decide +kernel
theorem dX1_init_33 : decode cX1_init 33 = .ok (.putfield 21, 3) := by decide +kernel
theorem dX1_init_36 : decode cX1_init 36 = .ok (.return_, 1) := by decide +kernel
theorem dX1_isFull_0 : decode cX1_isFull 0 = .ok (.aload_n 0, 1) := by decide +kernel
theorem dX1_isFull_1 : decode cX1_isFull 1 = .ok (.getfield 21, 3) := by decide +kernel
theorem dX1_isFull_4 : decode cX1_isFull 4 = .ok (.sipush 512, 3) := by decide +kernel
theorem dX1_isFull_7 : decode cX1_isFull 7 = .ok (.if_icmp .ne 7, 3) := by decide +kernel
theorem dX1_isFull_10 : decode cX1_isFull 10 = .ok (.iconst 1, 1) := by decide +kernel
theorem dX1_isFull_11 : decode cX1_isFull 11 = .ok (.goto 4, 3) := by decide +kernel
theorem dX1_isFull_14 : decode cX1_isFull 14 = .ok (.iconst 0, 1) := by decide +kernel
theorem dX1_isFull_15 : decode cX1_isFull 15 = .ok (.ireturn, 1) := by decide +kernel
set_option maxRecDepth 20000 in
theorem ggX1_add_X1_find : GoodIn wsX1_add wsX1_find := goodIn_r _ [13, 7, 6, 8, 14, 15, 16, 17] (by decide +kernel) (by decide +kernel)
set_option maxRecDepth 20000 in
theorem gX1_add_X1_find : GoodIn wsX1_add (wsV RX1 25 RX1 yX1_find wsX1_find) := goodIn_app (goodIn_of _ (by decide +kernel)) ggX1_add_X1_find
theorem dX1_add_0 : decode cX1_add 0 = .ok (.aload_n 0, 1) := by decide +kernel
theorem dX1_add_1 : decode cX1_add 1 = .ok (.iload_n 1, 1) := by decide +kernel
theorem dX1_add_2 : decode cX1_add 2 = .ok (.iload_n 2, 1) := by decide +kernel
theorem dX1_add_3 : decode cX1_add 3 = .ok (.invokevirtual 25, 3) := by decide +kernel
theorem dX1_add_6 : decode cX1_add 6 = .ok (.istore 4, 2) := by decide +kernel
theorem dX1_add_8 : decode cX1_add 8 = .ok (.iload 4, 2) := by decide +kernel
theorem dX1_add_10 : decode cX1_add 10 = .ok (.iconst (-1), 1) := by decide +kernel
theorem dX1_add_11 : decode cX1_add 11 = .ok (.if_icmp .eq 22, 3) := by decide +kernel
theorem dX1_add_14 : decode cX1_add 14 = .ok (.aload_n 0, 1) := by decide +kernel
theorem dX1_add_15 : decode cX1_add 15 = .ok (.getfield 18, 3) := by decide +kernel
theorem dX1_add_18 : decode cX1_add 18 = .ok (.iload 4, 2) := by decide +kernel
theorem dX1_add_20 : decode cX1_add 20 = .ok (.aload_n 0, 1) := by decide +kernel
theorem dX1_add_21 : decode cX1_add 21 = .ok (.getfield 18, 3) := by decide +kernel
theorem dX1_add_24 : decode cX1_add 24 = .ok (.iload 4, 2) := by decide +kernel
theorem dX1_add_26 : decode cX1_add 26 = .ok (.iaload, 1) := by decide +kernel
theorem dX1_add_27 : decode cX1_add 27 = .ok (.iload_n 3, 1) := by decide +kernel
theorem dX1_add_28 : decode cX1_add 28 = .ok (.invokestatic 29, 3) := by decide +kernel
theorem dX1_add_31 : decode cX1_add 31 = .ok (.iastore, 1) := by decide +kernel
theorem dX1_add_32 : decode cX1_add 32 = .ok (.return_, 1) := by decide +kernel
theorem dX1_add_33 : decode cX1_add 33 = .ok (.aload_n 0, 1) := by decide +kernel
theorem dX1_add_34 : decode cX1_add 34 = .ok (.getfield 9, 3) := by decide +kernel
theorem dX1_add_37 : decode cX1_add 37 = .ok (.aload_n 0, 1) := by decide +kernel
theorem dX1_add_38 : decode cX1_add 38 = .ok (.getfield 21, 3) := by decide +kernel
theorem dX1_add_41 : decode cX1_add 41 = .ok (.iload_n 1, 1) := by decide +kernel
theorem dX1_add_42 : decode cX1_add 42 = .ok (.iastore, 1) := by decide +kernel
theorem dX1_add_43 : decode cX1_add 43 = .ok (.aload_n 0, 1) := by decide +kernel
theorem dX1_add_44 : decode cX1_add 44 = .ok (.getfield 15, 3) := by decide +kernel
theorem dX1_add_47 : decode cX1_add 47 = .ok (.aload_n 0, 1) := by decide +kernel
theorem dX1_add_48 : decode cX1_add 48 = .ok (.getfield 21, 3) := by decide +kernel
theorem dX1_add_51 : decode cX1_add 51 = .ok (.iload_n 2, 1) := by decide +kernel
theorem dX1_add_52 : decode cX1_add 52 = .ok (.iastore, 1) := by decide +kernel
theorem dX1_add_53 : decode cX1_add 53 = .ok (.aload_n 0, 1) := by decide +kernel
theorem dX1_add_54 : decode cX1_add 54 = .ok (.getfield 18, 3) := by decide +kernel
theorem dX1_add_57 : decode cX1_add 57 = .ok (.aload_n 0, 1) := by decide +kernel
theorem dX1_add_58 : decode cX1_add 58 = .ok (.getfield 21, 3) := by decide +kernel
theorem dX1_add_61 : decode cX1_add 61 = .ok (.iload_n 3, 1) := by decide +kernel
theorem dX1_add_62 : decode cX1_add 62 = .ok (.iastore, 1) := by decide +kernel
theorem dX1_add_63 : decode cX1_add 63 = .ok (.aload_n 0, 1) := by decide +kernel
theorem dX1_add_64 : decode cX1_add 64 = .ok (.dup, 1) := by decide +kernel
theorem dX1_add_65 : decode cX1_add 65 = .ok (.getfield 21, 3) := by decide +kernel
theorem dX1_add_68 : decode cX1_add 68 = .ok (.iconst 1, 1) := by decide +kernel
theorem dX1_add_69 : decode cX1_add 69 = .ok (.iadd, 1) := by decide +kernel
theorem dX1_add_70 : decode cX1_add 70 = .ok (.putfield 21, 3) := by decide +kernel
theorem dX1_add_73 : decode cX1_add 73 = .ok (.return_, 1) := by decide +kernel
set_option maxRecDepth 20000 in
theorem ggX1_kindOf_X1_find : GoodIn wsX1_kindOf wsX1_find := goodIn_r _ [6, 7, 8, 9, 10, 11, 12, 13] (by decide +kernel) (by decide +kernel)
set_option maxRecDepth 20000 in
theorem gX1_kindOf_X1_find : GoodIn wsX1_kindOf (wsV RX1 25 RX1 yX1_find wsX1_find) := goodIn_app (goodIn_of _ (by decide +kernel)) ggX1_kindOf_X1_find
theorem dX1_kindOf_0 : decode cX1_kindOf 0 = .ok (.aload_n 0, 1) := by decide +kernel
theorem dX1_kindOf_1 : decode cX1_kindOf 1 = .ok (.iload_n 1, 1) := by decide +kernel
theorem dX1_kindOf_2 : decode cX1_kindOf 2 = .ok (.iload_n 2, 1) := by decide +kernel
theorem dX1_kindOf_3 : decode cX1_kindOf 3 = .ok (.invokevirtual 25, 3) := by decide +kernel
theorem dX1_kindOf_6 : decode cX1_kindOf 6 = .ok (.istore_n 3, 1) := by decide +kernel
theorem dX1_kindOf_7 : decode cX1_kindOf 7 = .ok (.iload_n 3, 1) := by decide +kernel
theorem dX1_kindOf_8 : decode cX1_kindOf 8 = .ok (.iconst (-1), 1) := by decide +kernel
theorem dX1_kindOf_9 : decode cX1_kindOf 9 = .ok (.if_icmp .ne 7, 3) := by decide +kernel
theorem dX1_kindOf_12 : decode cX1_kindOf 12 = .ok (.iconst 0, 1) := by decide +kernel
theorem dX1_kindOf_13 : decode cX1_kindOf 13 = .ok (.goto 9, 3) := by decide +kernel
theorem dX1_kindOf_16 : decode cX1_kindOf 16 = .ok (.aload_n 0, 1) := by decide +kernel
theorem dX1_kindOf_17 : decode cX1_kindOf 17 = .ok (.getfield 18, 3) := by decide +kernel
theorem dX1_kindOf_20 : decode cX1_kindOf 20 = .ok (.iload_n 3, 1) := by decide +kernel
theorem dX1_kindOf_21 : decode cX1_kindOf 21 = .ok (.iaload, 1) := by decide +kernel
theorem dX1_kindOf_22 : decode cX1_kindOf 22 = .ok (.ireturn, 1) := by decide +kernel
theorem dX1_countOf_0 : decode cX1_countOf 0 = .ok (.iconst 0, 1) := by decide +kernel
theorem dX1_countOf_1 : decode cX1_countOf 1 = .ok (.istore_n 3, 1) := by decide +kernel
theorem dX1_countOf_2 : decode cX1_countOf 2 = .ok (.iconst 0, 1) := by decide +kernel
theorem dX1_countOf_3 : decode cX1_countOf 3 = .ok (.istore 4, 2) := by decide +kernel
theorem dX1_countOf_5 : decode cX1_countOf 5 = .ok (.iload 4, 2) := by decide +kernel
theorem dX1_countOf_7 : decode cX1_countOf 7 = .ok (.aload_n 0, 1) := by decide +kernel
theorem dX1_countOf_8 : decode cX1_countOf 8 = .ok (.getfield 21, 3) := by decide +kernel
theorem dX1_countOf_11 : decode cX1_countOf 11 = .ok (.if_icmp .ge 34, 3) := by decide +kernel
theorem dX1_countOf_14 : decode cX1_countOf 14 = .ok (.aload_n 0, 1) := by decide +kernel
theorem dX1_countOf_15 : decode cX1_countOf 15 = .ok (.getfield 9, 3) := by decide +kernel
theorem dX1_countOf_18 : decode cX1_countOf 18 = .ok (.iload 4, 2) := by decide +kernel
theorem dX1_countOf_20 : decode cX1_countOf 20 = .ok (.iaload, 1) := by decide +kernel
theorem dX1_countOf_21 : decode cX1_countOf 21 = .ok (.iload_n 1, 1) := by decide +kernel
theorem dX1_countOf_22 : decode cX1_countOf 22 = .ok (.if_icmp .ne 17, 3) := by decide +kernel
theorem dX1_countOf_25 : decode cX1_countOf 25 = .ok (.aload_n 0, 1) := by decide +kernel
theorem dX1_countOf_26 : decode cX1_countOf 26 = .ok (.getfield 18, 3) := by decide +kernel
theorem dX1_countOf_29 : decode cX1_countOf 29 = .ok (.iload 4, 2) := by decide +kernel
theorem dX1_countOf_31 : decode cX1_countOf 31 = .ok (.iaload, 1) := by decide +kernel
theorem dX1_countOf_32 : decode cX1_countOf 32 = .ok (.iload_n 2, 1) := by decide +kernel
theorem dX1_countOf_33 : decode cX1_countOf 33 = .ok (.if_icmp .ne 6, 3) := by decide +kernel
theorem dX1_countOf_36 : decode cX1_countOf 36 = .ok (.iinc 3 1, 3) := by decide +kernel
theorem dX1_countOf_39 : decode cX1_countOf 39 = .ok (.iinc 4 1, 3) := by decide +kernel
theorem dX1_countOf_42 : decode cX1_countOf 42 = .ok (.goto (-37), 3) := by decide +kernel
theorem dX1_countOf_45 : decode cX1_countOf 45 = .ok (.iload_n 3, 1) := by decide +kernel
theorem dX1_countOf_46 : decode cX1_countOf 46 = .ok (.ireturn, 1) := by decide +kernel
set_option maxRecDepth 20000 in
theorem ggX1_handOver_X1_find : GoodIn wsX1_handOver wsX1_find := goodIn_r _ [13, 1, 2, 3, 14, 15, 16, 17] (by decide +kernel) (by decide +kernel)
set_option maxRecDepth 20000 in
theorem gX1_handOver_X1_find : GoodIn wsX1_handOver (wsV RX1 25 RX1 yX1_find wsX1_find) := goodIn_app (goodIn_of _ (by decide +kernel)) ggX1_handOver_X1_find
theorem dX1_handOver_0 : decode cX1_handOver 0 = .ok (.iconst 0, 1) := by decide +kernel
theorem dX1_handOver_1 : decode cX1_handOver 1 = .ok (.istore_n 3, 1) := by decide +kernel
theorem dX1_handOver_2 : decode cX1_handOver 2 = .ok (.iload_n 3, 1) := by decide +kernel
theorem dX1_handOver_3 : decode cX1_handOver 3 = .ok (.aload_n 0, 1) := by decide +kernel
theorem dX1_handOver_4 : decode cX1_handOver 4 = .ok (.getfield 21, 3) := by decide +kernel
theorem dX1_handOver_7 : decode cX1_handOver 7 = .ok (.if_icmp .ge 71, 3) := by decide +kernel
theorem dX1_handOver_10 : decode cX1_handOver 10 = .ok (.aload_n 0, 1) := by decide +kernel
theorem dX1_handOver_11 : decode cX1_handOver 11 = .ok (.getfield 9, 3) := by decide +kernel
theorem dX1_handOver_14 : decode cX1_handOver 14 = .ok (.iload_n 3, 1) := by decide +kernel
theorem dX1_handOver_15 : decode cX1_handOver 15 = .ok (.iaload, 1) := by decide +kernel
theorem dX1_handOver_16 : decode cX1_handOver 16 = .ok (.iload_n 1, 1) := by decide +kernel
theorem dX1_handOver_17 : decode cX1_handOver 17 = .ok (.if_icmp .ne 55, 3) := by decide +kernel
theorem dX1_handOver_20 : decode cX1_handOver 20 = .ok (.aload_n 0, 1) := by decide +kernel
theorem dX1_handOver_21 : decode cX1_handOver 21 = .ok (.iload_n 2, 1) := by decide +kernel
theorem dX1_handOver_22 : decode cX1_handOver 22 = .ok (.aload_n 0, 1) := by decide +kernel
theorem dX1_handOver_23 : decode cX1_handOver 23 = .ok (.getfield 15, 3) := by decide +kernel
theorem dX1_handOver_26 : decode cX1_handOver 26 = .ok (.iload_n 3, 1) := by decide +kernel
theorem dX1_handOver_27 : decode cX1_handOver 27 = .ok (.iaload, 1) := by decide +kernel
theorem dX1_handOver_28 : decode cX1_handOver 28 = .ok (.invokevirtual 25, 3) := by decide +kernel
theorem dX1_handOver_31 : decode cX1_handOver 31 = .ok (.istore 4, 2) := by decide +kernel
theorem dX1_handOver_33 : decode cX1_handOver 33 = .ok (.iload 4, 2) := by decide +kernel
theorem dX1_handOver_35 : decode cX1_handOver 35 = .ok (.iconst (-1), 1) := by decide +kernel
theorem dX1_handOver_36 : decode cX1_handOver 36 = .ok (.if_icmp .ne 13, 3) := by decide +kernel
theorem dX1_handOver_39 : decode cX1_handOver 39 = .ok (.aload_n 0, 1) := by decide +kernel
theorem dX1_handOver_40 : decode cX1_handOver 40 = .ok (.getfield 9, 3) := by decide +kernel
theorem dX1_handOver_43 : decode cX1_handOver 43 = .ok (.iload_n 3, 1) := by decide +kernel
theorem dX1_handOver_44 : decode cX1_handOver 44 = .ok (.iload_n 2, 1) := by decide +kernel
theorem dX1_handOver_45 : decode cX1_handOver 45 = .ok (.iastore, 1) := by decide +kernel
theorem dX1_handOver_46 : decode cX1_handOver 46 = .ok (.goto 26, 3) := by decide +kernel
theorem dX1_handOver_49 : decode cX1_handOver 49 = .ok (.aload_n 0, 1) := by decide +kernel
theorem dX1_handOver_50 : decode cX1_handOver 50 = .ok (.getfield 18, 3) := by decide +kernel
theorem dX1_handOver_53 : decode cX1_handOver 53 = .ok (.iload 4, 2) := by decide +kernel
theorem dX1_handOver_55 : decode cX1_handOver 55 = .ok (.aload_n 0, 1) := by decide +kernel
theorem dX1_handOver_56 : decode cX1_handOver 56 = .ok (.getfield 18, 3) := by decide +kernel
theorem dX1_handOver_59 : decode cX1_handOver 59 = .ok (.iload 4, 2) := by decide +kernel
theorem dX1_handOver_61 : decode cX1_handOver 61 = .ok (.iaload, 1) := by decide +kernel
theorem dX1_handOver_62 : decode cX1_handOver 62 = .ok (.aload_n 0, 1) := by decide +kernel
theorem dX1_handOver_63 : decode cX1_handOver 63 = .ok (.getfield 18, 3) := by decide +kernel
theorem dX1_handOver_66 : decode cX1_handOver 66 = .ok (.iload_n 3, 1) := by decide +kernel
theorem dX1_handOver_67 : decode cX1_handOver 67 = .ok (.iaload, 1) := by decide +kernel
theorem dX1_handOver_68 : decode cX1_handOver 68 = .ok (.invokestatic 29, 3) := by decide +kernel
theorem dX1_handOver_71 : decode cX1_handOver 71 = .ok (.iastore, 1) := by decide +kernel
theorem dX1_handOver_72 : decode cX1_handOver 72 = .ok (.iinc 3 1, 3) := by decide +kernel
theorem dX1_handOver_75 : decode cX1_handOver 75 = .ok (.goto (-73), 3) := by decide +kernel
theorem dX1_handOver_78 : decode cX1_handOver 78 = .ok (.return_, 1) := by decide +kernel
theorem dX1_drop_0 : decode cX1_drop 0 = .ok (.iconst 0, 1) := by decide +kernel
theorem dX1_drop_1 : decode cX1_drop 1 = .ok (.istore_n 2, 1) := by decide +kernel
theorem dX1_drop_2 : decode cX1_drop 2 = .ok (.iload_n 2, 1) := by decide +kernel
theorem dX1_drop_3 : decode cX1_drop 3 = .ok (.aload_n 0, 1) := by decide +kernel
theorem dX1_drop_4 : decode cX1_drop 4 = .ok (.getfield 21, 3) := by decide +kernel
theorem dX1_drop_7 : decode cX1_drop 7 = .ok (.if_icmp .ge 26, 3) := by decide +kernel
theorem dX1_drop_10 : decode cX1_drop 10 = .ok (.aload_n 0, 1) := by decide +kernel
theorem dX1_drop_11 : decode cX1_drop 11 = .ok (.getfield 9, 3) := by decide +kernel
theorem dX1_drop_14 : decode cX1_drop 14 = .ok (.iload_n 2, 1) := by decide +kernel
theorem dX1_drop_15 : decode cX1_drop 15 = .ok (.iaload, 1) := by decide +kernel
theorem dX1_drop_16 : decode cX1_drop 16 = .ok (.iload_n 1, 1) := by decide +kernel
theorem dX1_drop_17 : decode cX1_drop 17 = .ok (.if_icmp .ne 10, 3) := by decide +kernel
theorem dX1_drop_20 : decode cX1_drop 20 = .ok (.aload_n 0, 1) := by decide +kernel
theorem dX1_drop_21 : decode cX1_drop 21 = .ok (.getfield 9, 3) := by decide +kernel
theorem dX1_drop_24 : decode cX1_drop 24 = .ok (.iload_n 2, 1) := by decide +kernel
theorem dX1_drop_25 : decode cX1_drop 25 = .ok (.iconst (-1), 1) := by decide +kernel
theorem dX1_drop_26 : decode cX1_drop 26 = .ok (.iastore, 1) := by decide +kernel
theorem dX1_drop_27 : decode cX1_drop 27 = .ok (.iinc 2 1, 3) := by decide +kernel
theorem dX1_drop_30 : decode cX1_drop 30 = .ok (.goto (-28), 3) := by decide +kernel
theorem dX1_drop_33 : decode cX1_drop 33 = .ok (.return_, 1) := by decide +kernel
set_option maxRecDepth 20000 in
theorem ggX1_leastInTheWay_X1_isInTheWay : GoodIn wsX1_leastInTheWay wsX1_isInTheWay := goodIn_r _ [7, 8, 2, 9, 10, 11, 12, 13] (by decide +kernel) (by decide +kernel)
set_option maxRecDepth 20000 in
theorem gX1_leastInTheWay_X1_isInTheWay : GoodIn wsX1_leastInTheWay (wsV RX1 34 RX1 yX1_isInTheWay wsX1_isInTheWay) := goodIn_app (goodIn_of _ (by decide +kernel)) ggX1_leastInTheWay_X1_isInTheWay
theorem dX1_leastInTheWay_0 : decode cX1_leastInTheWay 0 = .ok (.iconst 0, 1) := by decide +kernel
theorem dX1_leastInTheWay_1 : decode cX1_leastInTheWay 1 = .ok (.istore 4, 2) := by decide +kernel
theorem dX1_leastInTheWay_3 : decode cX1_leastInTheWay 3 = .ok (.iconst 0, 1) := by decide +kernel
theorem dX1_leastInTheWay_4 : decode cX1_leastInTheWay 4 = .ok (.istore 5, 2) := by decide +kernel
theorem dX1_leastInTheWay_6 : decode cX1_leastInTheWay 6 = .ok (.iload 5, 2) := by decide +kernel
theorem dX1_leastInTheWay_8 : decode cX1_leastInTheWay 8 = .ok (.aload_n 0, 1) := by decide +kernel
theorem dX1_leastInTheWay_9 : decode cX1_leastInTheWay 9 = .ok (.getfield 21, 3) := by decide +kernel
theorem dX1_leastInTheWay_12 : decode cX1_leastInTheWay 12 = .ok (.if_icmp .ge 47, 3) := by decide +kernel
theorem dX1_leastInTheWay_15 : decode cX1_leastInTheWay 15 = .ok (.aload_n 0, 1) := by decide +kernel
theorem dX1_leastInTheWay_16 : decode cX1_leastInTheWay 16 = .ok (.iload 5, 2) := by decide +kernel
theorem dX1_leastInTheWay_18 : decode cX1_leastInTheWay 18 = .ok (.iload_n 1, 1) := by decide +kernel
theorem dX1_leastInTheWay_19 : decode cX1_leastInTheWay 19 = .ok (.iload_n 2, 1) := by decide +kernel
theorem dX1_leastInTheWay_20 : decode cX1_leastInTheWay 20 = .ok (.aload_n 3, 1) := by decide +kernel
theorem dX1_leastInTheWay_21 : decode cX1_leastInTheWay 21 = .ok (.invokevirtual 34, 3) := by decide +kernel
theorem dX1_leastInTheWay_24 : decode cX1_leastInTheWay 24 = .ok (.ifCond .eq 29, 3) := by decide +kernel
theorem dX1_leastInTheWay_27 : decode cX1_leastInTheWay 27 = .ok (.iload 4, 2) := by decide +kernel
theorem dX1_leastInTheWay_29 : decode cX1_leastInTheWay 29 = .ok (.ifCond .eq 15, 3) := by decide +kernel
theorem dX1_leastInTheWay_32 : decode cX1_leastInTheWay 32 = .ok (.aload_n 0, 1) := by decide +kernel
theorem dX1_leastInTheWay_33 : decode cX1_leastInTheWay 33 = .ok (.getfield 9, 3) := by decide +kernel
theorem dX1_leastInTheWay_36 : decode cX1_leastInTheWay 36 = .ok (.iload 5, 2) := by decide +kernel
theorem dX1_leastInTheWay_38 : decode cX1_leastInTheWay 38 = .ok (.iaload, 1) := by decide +kernel
theorem dX1_leastInTheWay_39 : decode cX1_leastInTheWay 39 = .ok (.iload 4, 2) := by decide +kernel
theorem dX1_leastInTheWay_41 : decode cX1_leastInTheWay 41 = .ok (.if_icmp .ge 12, 3) := by decide +kernel
theorem dX1_leastInTheWay_44 : decode cX1_leastInTheWay 44 = .ok (.aload_n 0, 1) := by decide +kernel
theorem dX1_leastInTheWay_45 : decode cX1_leastInTheWay 45 = .ok (.getfield 9, 3) := by decide +kernel
theorem dX1_leastInTheWay_48 : decode cX1_leastInTheWay 48 = .ok (.iload 5, 2) := by decide +kernel
theorem dX1_leastInTheWay_50 : decode cX1_leastInTheWay 50 = .ok (.iaload, 1) := by decide +kernel
theorem dX1_leastInTheWay_51 : decode cX1_leastInTheWay 51 = .ok (.istore 4, 2) := by decide +kernel
theorem dX1_leastInTheWay_53 : decode cX1_leastInTheWay 53 = .ok (.iinc 5 1, 3) := by decide +kernel
theorem dX1_leastInTheWay_56 : decode cX1_leastInTheWay 56 = .ok (.goto (-50), 3) := by decide +kernel
theorem dX1_leastInTheWay_59 : decode cX1_leastInTheWay 59 = .ok (.iload 4, 2) := by decide +kernel
theorem dX1_leastInTheWay_61 : decode cX1_leastInTheWay 61 = .ok (.ireturn, 1) := by decide +kernel
set_option maxRecDepth 20000 in
theorem ggX1_drawInTheWay_X5_slotOf : GoodIn wsX1_drawInTheWay wsX5_slotOf := goodIn_r _ [7, 8, 31, 32] (by decide +kernel) (by decide +kernel)
set_option maxRecDepth 20000 in
theorem gX1_drawInTheWay_X5_slotOf : GoodIn wsX1_drawInTheWay (wsV RX1 38 RX5 yX5_slotOf wsX5_slotOf) := goodIn_app (goodIn_of _ (by decide +kernel)) ggX1_drawInTheWay_X5_slotOf
set_option maxRecDepth 20000 in
theorem ggX1_drawInTheWay_X5_kindOf : GoodIn wsX1_drawInTheWay wsX5_kindOf := goodIn_r _ [12, 13, 31, 32] (by decide +kernel) (by decide +kernel)
set_option maxRecDepth 20000 in
theorem gX1_drawInTheWay_X5_kindOf : GoodIn wsX1_drawInTheWay (wsV RX1 44 RX5 yX5_kindOf wsX5_kindOf) := goodIn_app (goodIn_of _ (by decide +kernel)) ggX1_drawInTheWay_X5_kindOf
set_option maxRecDepth 20000 in
theorem ggX1_drawInTheWay_X1_isInTheWay : GoodIn wsX1_drawInTheWay wsX1_isInTheWay := goodIn_r _ [18, 19, 2, 20, 27, 28, 29, 30] (by decide +kernel) (by decide +kernel)
set_option maxRecDepth 20000 in
theorem gX1_drawInTheWay_X1_isInTheWay : GoodIn wsX1_drawInTheWay (wsV RX1 34 RX1 yX1_isInTheWay wsX1_isInTheWay) := goodIn_app (goodIn_of _ (by decide +kernel)) ggX1_drawInTheWay_X1_isInTheWay
set_option maxRecDepth 20000 in
theorem ggX1_drawInTheWay_X4_join : GoodIn wsX1_drawInTheWay wsX4_join := goodIn_r _ [25, 26, 33] (by decide +kernel) (by decide +kernel)
set_option maxRecDepth 20000 in
theorem gX1_drawInTheWay_X4_join : GoodIn wsX1_drawInTheWay (wsV RX1 47 RX4 yX4_join wsX4_join) := goodIn_app (goodIn_of _ (by decide +kernel)) ggX1_drawInTheWay_X4_join
theorem dX1_drawInTheWay_0 : decode cX1_drawInTheWay 0 = .ok (.iconst 0, 1) := by decide +kernel
theorem dX1_drawInTheWay_1 : decode cX1_drawInTheWay 1 = .ok (.istore 5, 2) := by decide +kernel
theorem dX1_drawInTheWay_3 : decode cX1_drawInTheWay 3 = .ok (.iload 5, 2) := by decide +kernel
theorem dX1_drawInTheWay_5 : decode cX1_drawInTheWay 5 = .ok (.aload_n 0, 1) := by decide +kernel
theorem dX1_drawInTheWay_6 : decode cX1_drawInTheWay 6 = .ok (.getfield 21, 3) := by decide +kernel
theorem dX1_drawInTheWay_9 : decode cX1_drawInTheWay 9 = .ok (.if_icmp .ge 42, 3) := by decide +kernel
theorem dX1_drawInTheWay_12 : decode cX1_drawInTheWay 12 = .ok (.aload_n 0, 1) := by decide +kernel
theorem dX1_drawInTheWay_13 : decode cX1_drawInTheWay 13 = .ok (.iload 5, 2) := by decide +kernel
theorem dX1_drawInTheWay_15 : decode cX1_drawInTheWay 15 = .ok (.aload_n 2, 1) := by decide +kernel
theorem dX1_drawInTheWay_16 : decode cX1_drawInTheWay 16 = .ok (.iload_n 1, 1) := by decide +kernel
theorem dX1_drawInTheWay_17 : decode cX1_drawInTheWay 17 = .ok (.invokevirtual 38, 3) := by decide +kernel
theorem dX1_drawInTheWay_20 : decode cX1_drawInTheWay 20 = .ok (.aload_n 2, 1) := by decide +kernel
theorem dX1_drawInTheWay_21 : decode cX1_drawInTheWay 21 = .ok (.iload_n 1, 1) := by decide +kernel
theorem dX1_drawInTheWay_22 : decode cX1_drawInTheWay 22 = .ok (.invokevirtual 44, 3) := by decide +kernel
theorem dX1_drawInTheWay_25 : decode cX1_drawInTheWay 25 = .ok (.aload_n 3, 1) := by decide +kernel
theorem dX1_drawInTheWay_26 : decode cX1_drawInTheWay 26 = .ok (.invokevirtual 34, 3) := by decide +kernel
theorem dX1_drawInTheWay_29 : decode cX1_drawInTheWay 29 = .ok (.ifCond .eq 16, 3) := by decide +kernel
theorem dX1_drawInTheWay_32 : decode cX1_drawInTheWay 32 = .ok (.aload 4, 2) := by decide +kernel
theorem dX1_drawInTheWay_34 : decode cX1_drawInTheWay 34 = .ok (.iload_n 1, 1) := by decide +kernel
theorem dX1_drawInTheWay_35 : decode cX1_drawInTheWay 35 = .ok (.aload_n 0, 1) := by decide +kernel
theorem dX1_drawInTheWay_36 : decode cX1_drawInTheWay 36 = .ok (.getfield 9, 3) := by decide +kernel
theorem dX1_drawInTheWay_39 : decode cX1_drawInTheWay 39 = .ok (.iload 5, 2) := by decide +kernel
theorem dX1_drawInTheWay_41 : decode cX1_drawInTheWay 41 = .ok (.iaload, 1) := by decide +kernel
theorem dX1_drawInTheWay_42 : decode cX1_drawInTheWay 42 = .ok (.invokevirtual 47, 3) := by decide +kernel
theorem dX1_drawInTheWay_45 : decode cX1_drawInTheWay 45 = .ok (.iinc 5 1, 3) := by decide +kernel
theorem dX1_drawInTheWay_48 : decode cX1_drawInTheWay 48 = .ok (.goto (-45), 3) := by decide +kernel
theorem dX1_drawInTheWay_51 : decode cX1_drawInTheWay 51 = .ok (.return_, 1) := by decide +kernel
theorem dX1_isInTheWay_0 : decode cX1_isInTheWay 0 = .ok (.aload_n 0, 1) := by decide +kernel
theorem dX1_isInTheWay_1 : decode cX1_isInTheWay 1 = .ok (.getfield 15, 3) := by decide +kernel
theorem dX1_isInTheWay_4 : decode cX1_isInTheWay 4 = .ok (.iload_n 1, 1) := by decide +kernel
theorem dX1_isInTheWay_5 : decode cX1_isInTheWay 5 = .ok (.iaload, 1) := by decide +kernel
theorem dX1_isInTheWay_6 : decode cX1_isInTheWay 6 = .ok (.iload_n 2, 1) := by decide +kernel
theorem dX1_isInTheWay_7 : decode cX1_isInTheWay 7 = .ok (.if_icmp .ne 25, 3) := by decide +kernel
theorem dX1_isInTheWay_10 : decode cX1_isInTheWay 10 = .ok (.aload_n 0, 1) := by decide +kernel
theorem dX1_isInTheWay_11 : decode cX1_isInTheWay 11 = .ok (.getfield 9, 3) := by decide +kernel
theorem dX1_isInTheWay_14 : decode cX1_isInTheWay 14 = .ok (.iload_n 1, 1) := by decide +kernel
theorem dX1_isInTheWay_15 : decode cX1_isInTheWay 15 = .ok (.iaload, 1) := by decide +kernel
theorem dX1_isInTheWay_16 : decode cX1_isInTheWay 16 = .ok (.iconst (-1), 1) := by decide +kernel
theorem dX1_isInTheWay_17 : decode cX1_isInTheWay 17 = .ok (.if_icmp .eq 15, 3) := by decide +kernel
theorem dX1_isInTheWay_20 : decode cX1_isInTheWay 20 = .ok (.aload 4, 2) := by decide +kernel
theorem dX1_isInTheWay_22 : decode cX1_isInTheWay 22 = .ok (.aload_n 0, 1) := by decide +kernel
theorem dX1_isInTheWay_23 : decode cX1_isInTheWay 23 = .ok (.getfield 9, 3) := by decide +kernel
theorem dX1_isInTheWay_26 : decode cX1_isInTheWay 26 = .ok (.iload_n 1, 1) := by decide +kernel
theorem dX1_isInTheWay_27 : decode cX1_isInTheWay 27 = .ok (.iaload, 1) := by decide +kernel
theorem dX1_isInTheWay_28 : decode cX1_isInTheWay 28 = .ok (.baload, 1) := by decide +kernel
theorem dX1_isInTheWay_29 : decode cX1_isInTheWay 29 = .ok (.ifCond .eq 5, 3) := by decide +kernel
theorem dX1_isInTheWay_32 : decode cX1_isInTheWay 32 = .ok (.iconst 0, 1) := by decide +kernel
theorem dX1_isInTheWay_33 : decode cX1_isInTheWay 33 = .ok (.ireturn, 1) := by decide +kernel
theorem dX1_isInTheWay_34 : decode cX1_isInTheWay 34 = .ok (.iload_n 3, 1) := by decide +kernel
theorem dX1_isInTheWay_35 : decode cX1_isInTheWay 35 = .ok (.iconst 2, 1) := by decide +kernel
theorem dX1_isInTheWay_36 : decode cX1_isInTheWay 36 = .ok (.if_icmp .eq 13, 3) := by decide +kernel
theorem dX1_isInTheWay_39 : decode cX1_isInTheWay 39 = .ok (.aload_n 0, 1) := by decide +kernel
theorem dX1_isInTheWay_40 : decode cX1_isInTheWay 40 = .ok (.getfield 18, 3) := by decide +kernel
theorem dX1_isInTheWay_43 : decode cX1_isInTheWay 43 = .ok (.iload_n 1, 1) := by decide +kernel
theorem dX1_isInTheWay_44 : decode cX1_isInTheWay 44 = .ok (.iaload, 1) := by decide +kernel
theorem dX1_isInTheWay_45 : decode cX1_isInTheWay 45 = .ok (.iconst 2, 1) := by decide +kernel
theorem dX1_isInTheWay_46 : decode cX1_isInTheWay 46 = .ok (.if_icmp .ne 7, 3) := by decide +kernel
theorem dX1_isInTheWay_49 : decode cX1_isInTheWay 49 = .ok (.iconst 1, 1) := by decide +kernel
theorem dX1_isInTheWay_50 : decode cX1_isInTheWay 50 = .ok (.goto 4, 3) := by decide +kernel
theorem dX1_isInTheWay_53 : decode cX1_isInTheWay 53 = .ok (.iconst 0, 1) := by decide +kernel
theorem dX1_isInTheWay_54 : decode cX1_isInTheWay 54 = .ok (.ireturn, 1) := by decide +kernel
theorem dX1_find_0 : decode cX1_find 0 = .ok (.iconst 0, 1) := by decide +kernel
theorem dX1_find_1 : decode cX1_find 1 = .ok (.istore_n 3, 1) := by decide +kernel
theorem dX1_find_2 : decode cX1_find 2 = .ok (.iload_n 3, 1) := by decide +kernel
theorem dX1_find_3 : decode cX1_find 3 = .ok (.aload_n 0, 1) := by decide +kernel
theorem dX1_find_4 : decode cX1_find 4 = .ok (.getfield 21, 3) := by decide +kernel
theorem dX1_find_7 : decode cX1_find 7 = .ok (.if_icmp .ge 31, 3) := by decide +kernel
theorem dX1_find_10 : decode cX1_find 10 = .ok (.aload_n 0, 1) := by decide +kernel
theorem dX1_find_11 : decode cX1_find 11 = .ok (.getfield 9, 3) := by decide +kernel
theorem dX1_find_14 : decode cX1_find 14 = .ok (.iload_n 3, 1) := by decide +kernel
theorem dX1_find_15 : decode cX1_find 15 = .ok (.iaload, 1) := by decide +kernel
theorem dX1_find_16 : decode cX1_find 16 = .ok (.iload_n 1, 1) := by decide +kernel
theorem dX1_find_17 : decode cX1_find 17 = .ok (.if_icmp .ne 15, 3) := by decide +kernel
theorem dX1_find_20 : decode cX1_find 20 = .ok (.aload_n 0, 1) := by decide +kernel
theorem dX1_find_21 : decode cX1_find 21 = .ok (.getfield 15, 3) := by decide +kernel
theorem dX1_find_24 : decode cX1_find 24 = .ok (.iload_n 3, 1) := by decide +kernel
theorem dX1_find_25 : decode cX1_find 25 = .ok (.iaload, 1) := by decide +kernel
theorem dX1_find_26 : decode cX1_find 26 = .ok (.iload_n 2, 1) := by decide +kernel
theorem dX1_find_27 : decode cX1_find 27 = .ok (.if_icmp .ne 5, 3) := by decide +kernel
theorem dX1_find_30 : decode cX1_find 30 = .ok (.iload_n 3, 1) := by decide +kernel
theorem dX1_find_31 : decode cX1_find 31 = .ok (.ireturn, 1) := by decide +kernel
theorem dX1_find_32 : decode cX1_find 32 = .ok (.iinc 3 1, 3) := by decide +kernel
theorem dX1_find_35 : decode cX1_find 35 = .ok (.goto (-33), 3) := by decide +kernel
theorem dX1_find_38 : decode cX1_find 38 = .ok (.iconst (-1), 1) := by decide +kernel
theorem dX1_find_39 : decode cX1_find 39 = .ok (.ireturn, 1) := by decide +kernel
theorem dX2_init_0 : decode cX2_init 0 = .ok (.aload_n 0, 1) := by decide +kernel
theorem dX2_init_1 : decode cX2_init 1 = .ok (.invokespecial 3, 3) := by decide +kernel
theorem dX2_init_4 : decode cX2_init 4 = .ok (.aload_n 0, 1) := by decide +kernel
theorem dX2_init_5 : decode cX2_init 5 = .ok (.sipush 512, 3) := by decide +kernel
theorem dX2_init_8 : decode cX2_init 8 = .ok (.newarray .int, 2) := by decide +kernel
theorem dX2_init_10 : decode cX2_init 10 = .ok (.putfield 9, 3) := by decide +kernel
theorem dX2_init_13 : decode cX2_init 13 = .ok (.aload_n 0, 1) := by decide +kernel
theorem dX2_init_14 : decode cX2_init 14 = .ok (.iconst 0, 1) := by decide +kernel
theorem dX2_init_15 : decode cX2_init 15 = .ok (.putfield 15, 3) := by decide +kernel
theorem dX2_init_18 : decode cX2_init 18 = .ok (.return_, 1) := by decide +kernel
theorem dX2_count_0 : decode cX2_count 0 = .ok (.aload_n 0, 1) := by decide +kernel
theorem dX2_count_1 : decode cX2_count 1 = .ok (.getfield 15, 3) := by decide +kernel
theorem dX2_count_4 : decode cX2_count 4 = .ok (.ireturn, 1) := by decide +kernel
theorem dX2_at_0 : decode cX2_at 0 = .ok (.aload_n 0, 1) := by decide +kernel
theorem dX2_at_1 : decode cX2_at 1 = .ok (.getfield 9, 3) := by decide +kernel
theorem dX2_at_4 : decode cX2_at 4 = .ok (.iload_n 1, 1) := by decide +kernel
theorem dX2_at_5 : decode cX2_at 5 = .ok (.iaload, 1) := by decide +kernel
theorem dX2_at_6 : decode cX2_at 6 = .ok (.ireturn, 1) := by decide +kernel
theorem dX2_find_0 : decode cX2_find 0 = .ok (.iconst 0, 1) := by decide +kernel
theorem dX2_find_1 : decode cX2_find 1 = .ok (.istore_n 2, 1) := by decide +kernel
theorem dX2_find_2 : decode cX2_find 2 = .ok (.iload_n 2, 1) := by decide +kernel
theorem dX2_find_3 : decode cX2_find 3 = .ok (.aload_n 0, 1) := by decide +kernel
theorem dX2_find_4 : decode cX2_find 4 = .ok (.getfield 15, 3) := by decide +kernel
theorem dX2_find_7 : decode cX2_find 7 = .ok (.if_icmp .ge 21, 3) := by decide +kernel
theorem dX2_find_10 : decode cX2_find 10 = .ok (.aload_n 0, 1) := by decide +kernel
theorem dX2_find_11 : decode cX2_find 11 = .ok (.getfield 9, 3) := by decide +kernel
theorem dX2_find_14 : decode cX2_find 14 = .ok (.iload_n 2, 1) := by decide +kernel
theorem dX2_find_15 : decode cX2_find 15 = .ok (.iaload, 1) := by decide +kernel
theorem dX2_find_16 : decode cX2_find 16 = .ok (.iload_n 1, 1) := by decide +kernel
theorem dX2_find_17 : decode cX2_find 17 = .ok (.if_icmp .ne 5, 3) := by decide +kernel
theorem dX2_find_20 : decode cX2_find 20 = .ok (.iload_n 2, 1) := by decide +kernel
theorem dX2_find_21 : decode cX2_find 21 = .ok (.ireturn, 1) := by decide +kernel
theorem dX2_find_22 : decode cX2_find 22 = .ok (.iinc 2 1, 3) := by decide +kernel
theorem dX2_find_25 : decode cX2_find 25 = .ok (.goto (-23), 3) := by decide +kernel
theorem dX2_find_28 : decode cX2_find 28 = .ok (.iconst (-1), 1) := by decide +kernel
theorem dX2_find_29 : decode cX2_find 29 = .ok (.ireturn, 1) := by decide +kernel
set_option maxRecDepth 20000 in
theorem ggX2_findOrAdd_X2_find : GoodIn wsX2_findOrAdd wsX2_find := goodIn_r _ [7, 1, 2, 8, 9] (by decide +kernel) (by decide +kernel)
set_option maxRecDepth 20000 in
theorem gX2_findOrAdd_X2_find : GoodIn wsX2_findOrAdd (wsV RX2 19 RX2 yX2_find wsX2_find) := goodIn_app (goodIn_of _ (by decide +kernel)) ggX2_findOrAdd_X2_find
theorem dX2_findOrAdd_0 : decode cX2_findOrAdd 0 = .ok (.aload_n 0, 1) := by decide +kernel
theorem dX2_findOrAdd_1 : decode cX2_findOrAdd 1 = .ok (.iload_n 1, 1) := by decide +kernel
theorem dX2_findOrAdd_2 : decode cX2_findOrAdd 2 = .ok (.invokevirtual 19, 3) := by decide +kernel
theorem dX2_findOrAdd_5 : decode cX2_findOrAdd 5 = .ok (.istore_n 2, 1) := by decide +kernel
theorem dX2_findOrAdd_6 : decode cX2_findOrAdd 6 = .ok (.iload_n 2, 1) := by decide +kernel
theorem dX2_findOrAdd_7 : decode cX2_findOrAdd 7 = .ok (.iconst (-1), 1) := by decide +kernel
theorem dX2_findOrAdd_8 : decode cX2_findOrAdd 8 = .ok (.if_icmp .ne 13, 3) := by decide +kernel
theorem dX2_findOrAdd_11 : decode cX2_findOrAdd 11 = .ok (.aload_n 0, 1) := by decide +kernel
theorem dX2_findOrAdd_12 : decode cX2_findOrAdd 12 = .ok (.getfield 15, 3) := by decide +kernel
theorem dX2_findOrAdd_15 : decode cX2_findOrAdd 15 = .ok (.sipush 512, 3) := by decide +kernel
theorem dX2_findOrAdd_18 : decode cX2_findOrAdd 18 = .ok (.if_icmp .ne 5, 3) := by decide +kernel
theorem dX2_findOrAdd_21 : decode cX2_findOrAdd 21 = .ok (.iload_n 2, 1) := by decide +kernel
theorem dX2_findOrAdd_22 : decode cX2_findOrAdd 22 = .ok (.ireturn, 1) := by decide +kernel
theorem dX2_findOrAdd_23 : decode cX2_findOrAdd 23 = .ok (.aload_n 0, 1) := by decide +kernel
theorem dX2_findOrAdd_24 : decode cX2_findOrAdd 24 = .ok (.getfield 9, 3) := by decide +kernel
theorem dX2_findOrAdd_27 : decode cX2_findOrAdd 27 = .ok (.aload_n 0, 1) := by decide +kernel
theorem dX2_findOrAdd_28 : decode cX2_findOrAdd 28 = .ok (.getfield 15, 3) := by decide +kernel
theorem dX2_findOrAdd_31 : decode cX2_findOrAdd 31 = .ok (.iload_n 1, 1) := by decide +kernel
theorem dX2_findOrAdd_32 : decode cX2_findOrAdd 32 = .ok (.iastore, 1) := by decide +kernel
theorem dX2_findOrAdd_33 : decode cX2_findOrAdd 33 = .ok (.aload_n 0, 1) := by decide +kernel
theorem dX2_findOrAdd_34 : decode cX2_findOrAdd 34 = .ok (.dup, 1) := by decide +kernel
theorem dX2_findOrAdd_35 : decode cX2_findOrAdd 35 = .ok (.getfield 15, 3) := by decide +kernel
theorem dX2_findOrAdd_38 : decode cX2_findOrAdd 38 = .ok (.iconst 1, 1) := by decide +kernel
theorem dX2_findOrAdd_39 : decode cX2_findOrAdd 39 = .ok (.iadd, 1) := by decide +kernel
theorem dX2_findOrAdd_40 : decode cX2_findOrAdd 40 = .ok (.putfield 15, 3) := by decide +kernel
theorem dX2_findOrAdd_43 : decode cX2_findOrAdd 43 = .ok (.aload_n 0, 1) := by decide +kernel
theorem dX2_findOrAdd_44 : decode cX2_findOrAdd 44 = .ok (.getfield 15, 3) := by decide +kernel
theorem dX2_findOrAdd_47 : decode cX2_findOrAdd 47 = .ok (.iconst 1, 1) := by decide +kernel
theorem dX2_findOrAdd_48 : decode cX2_findOrAdd 48 = .ok (.isub, 1) := by decide +kernel
theorem dX2_findOrAdd_49 : decode cX2_findOrAdd 49 = .ok (.ireturn, 1) := by decide +kernel
theorem dX3_init_0 : decode cX3_init 0 = .ok (.aload_n 0, 1) := by decide +kernel
theorem dX3_init_1 : decode cX3_init 1 = .ok (.invokespecial 3, 3) := by decide +kernel
theorem dX3_init_4 : decode cX3_init 4 = .ok (.aload_n 0, 1) := by decide +kernel
theorem dX3_init_5 : decode cX3_init 5 = .ok (.sipush 512, 3) := by decide +kernel
theorem dX3_init_8 : decode cX3_init 8 = .ok (.newarray .int, 2) := by decide +kernel
theorem dX3_init_10 : decode cX3_init 10 = .ok (.putfield 9, 3) := by decide +kernel
theorem dX3_init_13 : decode cX3_init 13 = .ok (.aload_n 0, 1) := by decide +kernel
theorem dX3_init_14 : decode cX3_init 14 = .ok (.iconst 0, 1) := by decide +kernel
theorem dX3_init_15 : decode cX3_init 15 = .ok (.putfield 15, 3) := by decide +kernel
theorem dX3_init_18 : decode cX3_init 18 = .ok (.return_, 1) := by decide +kernel
theorem dX3_isFull_0 : decode cX3_isFull 0 = .ok (.aload_n 0, 1) := by decide +kernel
theorem dX3_isFull_1 : decode cX3_isFull 1 = .ok (.getfield 15, 3) := by decide +kernel
theorem dX3_isFull_4 : decode cX3_isFull 4 = .ok (.sipush 512, 3) := by decide +kernel
theorem dX3_isFull_7 : decode cX3_isFull 7 = .ok (.if_icmp .ne 7, 3) := by decide +kernel
theorem dX3_isFull_10 : decode cX3_isFull 10 = .ok (.iconst 1, 1) := by decide +kernel
theorem dX3_isFull_11 : decode cX3_isFull 11 = .ok (.goto 4, 3) := by decide +kernel
theorem dX3_isFull_14 : decode cX3_isFull 14 = .ok (.iconst 0, 1) := by decide +kernel
theorem dX3_isFull_15 : decode cX3_isFull 15 = .ok (.ireturn, 1) := by decide +kernel
theorem dX3_now_0 : decode cX3_now 0 = .ok (.aload_n 0, 1) := by decide +kernel
theorem dX3_now_1 : decode cX3_now 1 = .ok (.getfield 15, 3) := by decide +kernel
theorem dX3_now_4 : decode cX3_now 4 = .ok (.ireturn, 1) := by decide +kernel
theorem dX3_timeOf_0 : decode cX3_timeOf 0 = .ok (.iload_n 1, 1) := by decide +kernel
theorem dX3_timeOf_1 : decode cX3_timeOf 1 = .ok (.iconst 1, 1) := by decide +kernel
theorem dX3_timeOf_2 : decode cX3_timeOf 2 = .ok (.iadd, 1) := by decide +kernel
theorem dX3_timeOf_3 : decode cX3_timeOf 3 = .ok (.ireturn, 1) := by decide +kernel
set_option maxRecDepth 20000 in
theorem ggX3_add_X3_countOf : GoodIn wsX3_add wsX3_countOf := goodIn_r _ [7, 2, 1, 8, 9] (by decide +kernel) (by decide +kernel)
set_option maxRecDepth 20000 in
theorem gX3_add_X3_countOf : GoodIn wsX3_add (wsV RX3 19 RX3 yX3_countOf wsX3_countOf) := goodIn_app (goodIn_of _ (by decide +kernel)) ggX3_add_X3_countOf
theorem dX3_add_0 : decode cX3_add 0 = .ok (.aload_n 0, 1) := by decide +kernel
theorem dX3_add_1 : decode cX3_add 1 = .ok (.iload_n 1, 1) := by decide +kernel
theorem dX3_add_2 : decode cX3_add 2 = .ok (.invokevirtual 19, 3) := by decide +kernel
theorem dX3_add_5 : decode cX3_add 5 = .ok (.istore_n 2, 1) := by decide +kernel
theorem dX3_add_6 : decode cX3_add 6 = .ok (.aload_n 0, 1) := by decide +kernel
theorem dX3_add_7 : decode cX3_add 7 = .ok (.getfield 9, 3) := by decide +kernel
theorem dX3_add_10 : decode cX3_add 10 = .ok (.aload_n 0, 1) := by decide +kernel
theorem dX3_add_11 : decode cX3_add 11 = .ok (.getfield 15, 3) := by decide +kernel
theorem dX3_add_14 : decode cX3_add 14 = .ok (.iload_n 1, 1) := by decide +kernel
theorem dX3_add_15 : decode cX3_add 15 = .ok (.iastore, 1) := by decide +kernel
theorem dX3_add_16 : decode cX3_add 16 = .ok (.aload_n 0, 1) := by decide +kernel
theorem dX3_add_17 : decode cX3_add 17 = .ok (.dup, 1) := by decide +kernel
theorem dX3_add_18 : decode cX3_add 18 = .ok (.getfield 15, 3) := by decide +kernel
theorem dX3_add_21 : decode cX3_add 21 = .ok (.iconst 1, 1) := by decide +kernel
theorem dX3_add_22 : decode cX3_add 22 = .ok (.iadd, 1) := by decide +kernel
theorem dX3_add_23 : decode cX3_add 23 = .ok (.putfield 15, 3) := by decide +kernel
theorem dX3_add_26 : decode cX3_add 26 = .ok (.iload_n 2, 1) := by decide +kernel
theorem dX3_add_27 : decode cX3_add 27 = .ok (.ireturn, 1) := by decide +kernel
theorem dX3_countOf_0 : decode cX3_countOf 0 = .ok (.iconst 0, 1) := by decide +kernel
theorem dX3_countOf_1 : decode cX3_countOf 1 = .ok (.istore_n 2, 1) := by decide +kernel
theorem dX3_countOf_2 : decode cX3_countOf 2 = .ok (.iconst 0, 1) := by decide +kernel
theorem dX3_countOf_3 : decode cX3_countOf 3 = .ok (.istore_n 3, 1) := by decide +kernel
theorem dX3_countOf_4 : decode cX3_countOf 4 = .ok (.iload_n 3, 1) := by decide +kernel
theorem dX3_countOf_5 : decode cX3_countOf 5 = .ok (.aload_n 0, 1) := by decide +kernel
theorem dX3_countOf_6 : decode cX3_countOf 6 = .ok (.getfield 15, 3) := by decide +kernel
theorem dX3_countOf_9 : decode cX3_countOf 9 = .ok (.if_icmp .ge 22, 3) := by decide +kernel
theorem dX3_countOf_12 : decode cX3_countOf 12 = .ok (.aload_n 0, 1) := by decide +kernel
theorem dX3_countOf_13 : decode cX3_countOf 13 = .ok (.getfield 9, 3) := by decide +kernel
theorem dX3_countOf_16 : decode cX3_countOf 16 = .ok (.iload_n 3, 1) := by decide +kernel
theorem dX3_countOf_17 : decode cX3_countOf 17 = .ok (.iaload, 1) := by decide +kernel
theorem dX3_countOf_18 : decode cX3_countOf 18 = .ok (.iload_n 1, 1) := by decide +kernel
theorem dX3_countOf_19 : decode cX3_countOf 19 = .ok (.if_icmp .ne 6, 3) := by decide +kernel
theorem dX3_countOf_22 : decode cX3_countOf 22 = .ok (.iinc 2 1, 3) := by decide +kernel
theorem dX3_countOf_25 : decode cX3_countOf 25 = .ok (.iinc 3 1, 3) := by decide +kernel
theorem dX3_countOf_28 : decode cX3_countOf 28 = .ok (.goto (-24), 3) := by decide +kernel
theorem dX3_countOf_31 : decode cX3_countOf 31 = .ok (.iload_n 2, 1) := by decide +kernel
theorem dX3_countOf_32 : decode cX3_countOf 32 = .ok (.ireturn, 1) := by decide +kernel
theorem dX3_find_0 : decode cX3_find 0 = .ok (.iconst 0, 1) := by decide +kernel
theorem dX3_find_1 : decode cX3_find 1 = .ok (.istore_n 3, 1) := by decide +kernel
theorem dX3_find_2 : decode cX3_find 2 = .ok (.iconst 0, 1) := by decide +kernel
theorem dX3_find_3 : decode cX3_find 3 = .ok (.istore 4, 2) := by decide +kernel
theorem dX3_find_5 : decode cX3_find 5 = .ok (.iload 4, 2) := by decide +kernel
theorem dX3_find_7 : decode cX3_find 7 = .ok (.aload_n 0, 1) := by decide +kernel
theorem dX3_find_8 : decode cX3_find 8 = .ok (.getfield 15, 3) := by decide +kernel
theorem dX3_find_11 : decode cX3_find 11 = .ok (.if_icmp .ge 31, 3) := by decide +kernel
theorem dX3_find_14 : decode cX3_find 14 = .ok (.aload_n 0, 1) := by decide +kernel
theorem dX3_find_15 : decode cX3_find 15 = .ok (.getfield 9, 3) := by decide +kernel
theorem dX3_find_18 : decode cX3_find 18 = .ok (.iload 4, 2) := by decide +kernel
theorem dX3_find_20 : decode cX3_find 20 = .ok (.iaload, 1) := by decide +kernel
theorem dX3_find_21 : decode cX3_find 21 = .ok (.iload_n 1, 1) := by decide +kernel
theorem dX3_find_22 : decode cX3_find 22 = .ok (.if_icmp .ne 14, 3) := by decide +kernel
theorem dX3_find_25 : decode cX3_find 25 = .ok (.iload_n 3, 1) := by decide +kernel
theorem dX3_find_26 : decode cX3_find 26 = .ok (.iload_n 2, 1) := by decide +kernel
theorem dX3_find_27 : decode cX3_find 27 = .ok (.if_icmp .ne 6, 3) := by decide +kernel
theorem dX3_find_30 : decode cX3_find 30 = .ok (.iload 4, 2) := by decide +kernel
theorem dX3_find_32 : decode cX3_find 32 = .ok (.ireturn, 1) := by decide +kernel
theorem dX3_find_33 : decode cX3_find 33 = .ok (.iinc 3 1, 3) := by decide +kernel
theorem dX3_find_36 : decode cX3_find 36 = .ok (.iinc 4 1, 3) := by decide +kernel
theorem dX3_find_39 : decode cX3_find 39 = .ok (.goto (-34), 3) := by decide +kernel
theorem dX3_find_42 : decode cX3_find 42 = .ok (.iconst (-1), 1) := by decide +kernel
theorem dX3_find_43 : decode cX3_find 43 = .ok (.ireturn, 1) := by decide +kernel
theorem dX3_dropAfter_0 : decode cX3_dropAfter 0 = .ok (.iload_n 2, 1) := by decide +kernel
theorem dX3_dropAfter_1 : decode cX3_dropAfter 1 = .ok (.iconst 1, 1) := by decide +kernel
theorem dX3_dropAfter_2 : decode cX3_dropAfter 2 = .ok (.iadd, 1) := by decide +kernel
theorem dX3_dropAfter_3 : decode cX3_dropAfter 3 = .ok (.istore_n 3, 1) := by decide +kernel
theorem dX3_dropAfter_4 : decode cX3_dropAfter 4 = .ok (.iload_n 3, 1) := by decide +kernel
theorem dX3_dropAfter_5 : decode cX3_dropAfter 5 = .ok (.aload_n 0, 1) := by decide +kernel
theorem dX3_dropAfter_6 : decode cX3_dropAfter 6 = .ok (.getfield 15, 3) := by decide +kernel
theorem dX3_dropAfter_9 : decode cX3_dropAfter 9 = .ok (.if_icmp .ge 26, 3) := by decide +kernel
theorem dX3_dropAfter_12 : decode cX3_dropAfter 12 = .ok (.aload_n 0, 1) := by decide +kernel
theorem dX3_dropAfter_13 : decode cX3_dropAfter 13 = .ok (.getfield 9, 3) := by decide +kernel
theorem dX3_dropAfter_16 : decode cX3_dropAfter 16 = .ok (.iload_n 3, 1) := by decide +kernel
theorem dX3_dropAfter_17 : decode cX3_dropAfter 17 = .ok (.iaload, 1) := by decide +kernel
theorem dX3_dropAfter_18 : decode cX3_dropAfter 18 = .ok (.iload_n 1, 1) := by decide +kernel
theorem dX3_dropAfter_19 : decode cX3_dropAfter 19 = .ok (.if_icmp .ne 10, 3) := by decide +kernel
theorem dX3_dropAfter_22 : decode cX3_dropAfter 22 = .ok (.aload_n 0, 1) := by decide +kernel
theorem dX3_dropAfter_23 : decode cX3_dropAfter 23 = .ok (.getfield 9, 3) := by decide +kernel
theorem dX3_dropAfter_26 : decode cX3_dropAfter 26 = .ok (.iload_n 3, 1) := by decide +kernel
theorem dX3_dropAfter_27 : decode cX3_dropAfter 27 = .ok (.iconst (-1), 1) := by decide +kernel
theorem dX3_dropAfter_28 : decode cX3_dropAfter 28 = .ok (.iastore, 1) := by decide +kernel
theorem dX3_dropAfter_29 : decode cX3_dropAfter 29 = .ok (.iinc 3 1, 3) := by decide +kernel
theorem dX3_dropAfter_32 : decode cX3_dropAfter 32 = .ok (.goto (-28), 3) := by decide +kernel
theorem dX3_dropAfter_35 : decode cX3_dropAfter 35 = .ok (.return_, 1) := by decide +kernel
set_option maxRecDepth 20000 in
theorem ggX3_drop_X3_dropAfter : GoodIn wsX3_drop wsX3_dropAfter := goodIn_r _ [5, 6, 7, 8, 9] (by decide +kernel) (by decide +kernel)
set_option maxRecDepth 20000 in
theorem gX3_drop_X3_dropAfter : GoodIn wsX3_drop (wsV RX3 23 RX3 yX3_dropAfter wsX3_dropAfter) := goodIn_app (goodIn_of _ (by decide +kernel)) ggX3_drop_X3_dropAfter
theorem dX3_drop_0 : decode cX3_drop 0 = .ok (.aload_n 0, 1) := by decide +kernel
theorem dX3_drop_1 : decode cX3_drop 1 = .ok (.iload_n 1, 1) := by decide +kernel
theorem dX3_drop_2 : decode cX3_drop 2 = .ok (.iconst (-1), 1) := by decide +kernel
theorem dX3_drop_3 : decode cX3_drop 3 = .ok (.invokevirtual 23, 3) := by decide +kernel
theorem dX3_drop_6 : decode cX3_drop 6 = .ok (.return_, 1) := by decide +kernel
theorem dX4_init_0 : decode cX4_init 0 = .ok (.aload_n 0, 1) := by decide +kernel
theorem dX4_init_1 : decode cX4_init 1 = .ok (.invokespecial 5, 3) := by decide +kernel
theorem dX4_init_4 : decode cX4_init 4 = .ok (.aload_n 0, 1) := by decide +kernel
theorem dX4_init_5 : decode cX4_init 5 = .ok (.sipush 453, 3) := by decide +kernel
theorem dX4_init_8 : decode cX4_init 8 = .ok (.newarray .long, 2) := by decide +kernel
theorem dX4_init_10 : decode cX4_init 10 = .ok (.putfield 11, 3) := by decide +kernel
theorem dX4_init_13 : decode cX4_init 13 = .ok (.return_, 1) := by decide +kernel
set_option maxRecDepth 20000 in
theorem ggX4_clear_J7_fill_d0a16 : GoodIn wsX4_clear wsJ7_fill_d0a16 := goodIn_r _ [5] (by decide +kernel) (by decide +kernel)
set_option maxRecDepth 20000 in
theorem gX4_clear_J7_fill_d0a16 : GoodIn wsX4_clear (va_wsS RX4 15 yJ7_fill_d0a16 wsJ7_fill_d0a16) := goodIn_app (goodIn_of _ (by decide +kernel)) ggX4_clear_J7_fill_d0a16
theorem dX4_clear_0 : decode cX4_clear 0 = .ok (.aload_n 0, 1) := by decide +kernel
theorem dX4_clear_1 : decode cX4_clear 1 = .ok (.getfield 11, 3) := by decide +kernel
theorem dX4_clear_4 : decode cX4_clear 4 = .ok (.lconst 0, 1) := by decide +kernel
theorem dX4_clear_5 : decode cX4_clear 5 = .ok (.invokestatic 15, 3) := by decide +kernel
theorem dX4_clear_8 : decode cX4_clear 8 = .ok (.return_, 1) := by decide +kernel
theorem dX4_join_0 : decode cX4_join 0 = .ok (.aload_n 0, 1) := by decide +kernel
theorem dX4_join_1 : decode cX4_join 1 = .ok (.getfield 11, 3) := by decide +kernel
theorem dX4_join_4 : decode cX4_join 4 = .ok (.iload_n 1, 1) := by decide +kernel
theorem dX4_join_5 : decode cX4_join 5 = .ok (.iconst 3, 1) := by decide +kernel
theorem dX4_join_6 : decode cX4_join 6 = .ok (.imul, 1) := by decide +kernel
theorem dX4_join_7 : decode cX4_join 7 = .ok (.iload_n 2, 1) := by decide +kernel
theorem dX4_join_8 : decode cX4_join 8 = .ok (.bipush 64, 2) := by decide +kernel
theorem dX4_join_10 : decode cX4_join 10 = .ok (.idiv, 1) := by decide +kernel
theorem dX4_join_11 : decode cX4_join 11 = .ok (.iadd, 1) := by decide +kernel
theorem dX4_join_12 : decode cX4_join 12 = .ok (.dup2, 1) := by decide +kernel
theorem dX4_join_13 : decode cX4_join 13 = .ok (.laload, 1) := by decide +kernel
theorem dX4_join_14 : decode cX4_join 14 = .ok (.lconst 1, 1) := by decide +kernel
theorem dX4_join_15 : decode cX4_join 15 = .ok (.iload_n 2, 1) := by decide +kernel
theorem dX4_join_16 : decode cX4_join 16 = .ok (.bipush 64, 2) := by decide +kernel
theorem dX4_join_18 : decode cX4_join 18 = .ok (.irem, 1) := by decide +kernel
theorem dX4_join_19 : decode cX4_join 19 = .ok (.lshl, 1) := by decide +kernel
theorem dX4_join_20 : decode cX4_join 20 = .ok (.lor, 1) := by decide +kernel
theorem dX4_join_21 : decode cX4_join 21 = .ok (.lastore, 1) := by decide +kernel
theorem dX4_join_22 : decode cX4_join 22 = .ok (.return_, 1) := by decide +kernel
theorem dX4_leads_0 : decode cX4_leads 0 = .ok (.aload_n 0, 1) := by decide +kernel
theorem dX4_leads_1 : decode cX4_leads 1 = .ok (.getfield 11, 3) := by decide +kernel
theorem dX4_leads_4 : decode cX4_leads 4 = .ok (.iload_n 1, 1) := by decide +kernel
theorem dX4_leads_5 : decode cX4_leads 5 = .ok (.iconst 3, 1) := by decide +kernel
theorem dX4_leads_6 : decode cX4_leads 6 = .ok (.imul, 1) := by decide +kernel
theorem dX4_leads_7 : decode cX4_leads 7 = .ok (.iload_n 2, 1) := by decide +kernel
theorem dX4_leads_8 : decode cX4_leads 8 = .ok (.bipush 64, 2) := by decide +kernel
theorem dX4_leads_10 : decode cX4_leads 10 = .ok (.idiv, 1) := by decide +kernel
theorem dX4_leads_11 : decode cX4_leads 11 = .ok (.iadd, 1) := by decide +kernel
theorem dX4_leads_12 : decode cX4_leads 12 = .ok (.laload, 1) := by decide +kernel
theorem dX4_leads_13 : decode cX4_leads 13 = .ok (.iload_n 2, 1) := by decide +kernel
theorem dX4_leads_14 : decode cX4_leads 14 = .ok (.bipush 64, 2) := by decide +kernel
theorem dX4_leads_16 : decode cX4_leads 16 = .ok (.irem, 1) := by decide +kernel
theorem dX4_leads_17 : decode cX4_leads 17 = .ok (.lushr, 1) := by decide +kernel
theorem dX4_leads_18 : decode cX4_leads 18 = .ok (.lconst 1, 1) := by decide +kernel
theorem dX4_leads_19 : decode cX4_leads 19 = .ok (.land, 1) := by decide +kernel
theorem dX4_leads_20 : decode cX4_leads 20 = .ok (.lconst 0, 1) := by decide +kernel
theorem dX4_leads_21 : decode cX4_leads 21 = .ok (.lcmp, 1) := by decide +kernel
theorem dX4_leads_22 : decode cX4_leads 22 = .ok (.ifCond .eq 7, 3) := by decide +kernel
theorem dX4_leads_25 : decode cX4_leads 25 = .ok (.iconst 1, 1) := by decide +kernel
theorem dX4_leads_26 : decode cX4_leads 26 = .ok (.goto 4, 3) := by decide +kernel
theorem dX4_leads_29 : decode cX4_leads 29 = .ok (.iconst 0, 1) := by decide +kernel
theorem dX4_leads_30 : decode cX4_leads 30 = .ok (.ireturn, 1) := by decide +kernel
set_option maxRecDepth 20000 in
theorem ggX4_close_X4_leads : GoodIn wsX4_close wsX4_leads := goodIn_r _ [5, 6, 11] (by decide +kernel) (by decide +kernel)
set_option maxRecDepth 20000 in
theorem gX4_close_X4_leads : GoodIn wsX4_close (wsV RX4 21 RX4 yX4_leads wsX4_leads) := goodIn_app (goodIn_of _ (by decide +kernel)) ggX4_close_X4_leads
set_option maxRecDepth 20000 in
theorem ggX4_close_X4_joinAll : GoodIn wsX4_close wsX4_joinAll := goodIn_r _ [10, 6, 11] (by decide +kernel) (by decide +kernel)
set_option maxRecDepth 20000 in
theorem gX4_close_X4_joinAll : GoodIn wsX4_close (wsV RX4 25 RX4 yX4_joinAll wsX4_joinAll) := goodIn_app (goodIn_of _ (by decide +kernel)) ggX4_close_X4_joinAll
theorem dX4_close_0 : decode cX4_close 0 = .ok (.iconst 1, 1) := by decide +kernel
theorem dX4_close_1 : decode cX4_close 1 = .ok (.istore_n 2, 1) := by decide +kernel
theorem dX4_close_2 : decode cX4_close 2 = .ok (.iload_n 2, 1) := by decide +kernel
theorem dX4_close_3 : decode cX4_close 3 = .ok (.iload_n 1, 1) := by decide +kernel
theorem dX4_close_4 : decode cX4_close 4 = .ok (.if_icmp .gt 37, 3) := by decide +kernel
theorem dX4_close_7 : decode cX4_close 7 = .ok (.iconst 1, 1) := by decide +kernel
theorem dX4_close_8 : decode cX4_close 8 = .ok (.istore_n 3, 1) := by decide +kernel
theorem dX4_close_9 : decode cX4_close 9 = .ok (.iload_n 3, 1) := by decide +kernel
theorem dX4_close_10 : decode cX4_close 10 = .ok (.iload_n 1, 1) := by decide +kernel
theorem dX4_close_11 : decode cX4_close 11 = .ok (.if_icmp .gt 24, 3) := by decide +kernel
theorem dX4_close_14 : decode cX4_close 14 = .ok (.aload_n 0, 1) := by decide +kernel
theorem dX4_close_15 : decode cX4_close 15 = .ok (.iload_n 3, 1) := by decide +kernel
theorem dX4_close_16 : decode cX4_close 16 = .ok (.iload_n 2, 1) := by decide +kernel
theorem dX4_close_17 : decode cX4_close 17 = .ok (.invokevirtual 21, 3) := by decide +kernel
theorem dX4_close_20 : decode cX4_close 20 = .ok (.ifCond .eq 9, 3) := by decide +kernel
theorem dX4_close_23 : decode cX4_close 23 = .ok (.aload_n 0, 1) := by decide +kernel
theorem dX4_close_24 : decode cX4_close 24 = .ok (.iload_n 3, 1) := by decide +kernel
theorem dX4_close_25 : decode cX4_close 25 = .ok (.iload_n 2, 1) := by decide +kernel
theorem dX4_close_26 : decode cX4_close 26 = .ok (.invokevirtual 25, 3) := by decide +kernel
theorem dX4_close_29 : decode cX4_close 29 = .ok (.iinc 3 1, 3) := by decide +kernel
theorem dX4_close_32 : decode cX4_close 32 = .ok (.goto (-23), 3) := by decide +kernel
theorem dX4_close_35 : decode cX4_close 35 = .ok (.iinc 2 1, 3) := by decide +kernel
theorem dX4_close_38 : decode cX4_close 38 = .ok (.goto (-36), 3) := by decide +kernel
theorem dX4_close_41 : decode cX4_close 41 = .ok (.return_, 1) := by decide +kernel
theorem dX4_joinAll_0 : decode cX4_joinAll 0 = .ok (.iconst 0, 1) := by decide +kernel
theorem dX4_joinAll_1 : decode cX4_joinAll 1 = .ok (.istore_n 3, 1) := by decide +kernel
theorem dX4_joinAll_2 : decode cX4_joinAll 2 = .ok (.iload_n 3, 1) := by decide +kernel
theorem dX4_joinAll_3 : decode cX4_joinAll 3 = .ok (.iconst 3, 1) := by decide +kernel
theorem dX4_joinAll_4 : decode cX4_joinAll 4 = .ok (.if_icmp .ge 32, 3) := by decide +kernel
theorem dX4_joinAll_7 : decode cX4_joinAll 7 = .ok (.aload_n 0, 1) := by decide +kernel
theorem dX4_joinAll_8 : decode cX4_joinAll 8 = .ok (.getfield 11, 3) := by decide +kernel
theorem dX4_joinAll_11 : decode cX4_joinAll 11 = .ok (.iload_n 1, 1) := by decide +kernel
theorem dX4_joinAll_12 : decode cX4_joinAll 12 = .ok (.iconst 3, 1) := by decide +kernel
theorem dX4_joinAll_13 : decode cX4_joinAll 13 = .ok (.imul, 1) := by decide +kernel
theorem dX4_joinAll_14 : decode cX4_joinAll 14 = .ok (.iload_n 3, 1) := by decide +kernel
theorem dX4_joinAll_15 : decode cX4_joinAll 15 = .ok (.iadd, 1) := by decide +kernel
theorem dX4_joinAll_16 : decode cX4_joinAll 16 = .ok (.dup2, 1) := by decide +kernel
theorem dX4_joinAll_17 : decode cX4_joinAll 17 = .ok (.laload, 1) := by decide +kernel
theorem dX4_joinAll_18 : decode cX4_joinAll 18 = .ok (.aload_n 0, 1) := by decide +kernel
theorem dX4_joinAll_19 : decode cX4_joinAll 19 = .ok (.getfield 11, 3) := by decide +kernel
theorem dX4_joinAll_22 : decode cX4_joinAll 22 = .ok (.iload_n 2, 1) := by decide +kernel
theorem dX4_joinAll_23 : decode cX4_joinAll 23 = .ok (.iconst 3, 1) := by decide +kernel
theorem dX4_joinAll_24 : decode cX4_joinAll 24 = .ok (.imul, 1) := by decide +kernel
theorem dX4_joinAll_25 : decode cX4_joinAll 25 = .ok (.iload_n 3, 1) := by decide +kernel
theorem dX4_joinAll_26 : decode cX4_joinAll 26 = .ok (.iadd, 1) := by decide +kernel
theorem dX4_joinAll_27 : decode cX4_joinAll 27 = .ok (.laload, 1) := by decide +kernel
theorem dX4_joinAll_28 : decode cX4_joinAll 28 = .ok (.lor, 1) := by decide +kernel
theorem dX4_joinAll_29 : decode cX4_joinAll 29 = .ok (.lastore, 1) := by decide +kernel
theorem dX4_joinAll_30 : decode cX4_joinAll 30 = .ok (.iinc 3 1, 3) := by decide +kernel
theorem dX4_joinAll_33 : decode cX4_joinAll 33 = .ok (.goto (-31), 3) := by decide +kernel
theorem dX4_joinAll_36 : decode cX4_joinAll 36 = .ok (.return_, 1) := by decide +kernel
theorem dX5_init_0 : decode cX5_init 0 = .ok (.aload_n 0, 1) := by decide +kernel
theorem dX5_init_1 : decode cX5_init 1 = .ok (.invokespecial 3, 3) := by decide +kernel
theorem dX5_init_4 : decode cX5_init 4 = .ok (.aload_n 0, 1) := by decide +kernel
theorem dX5_init_5 : decode cX5_init 5 = .ok (.sipush 151, 3) := by decide +kernel
theorem dX5_init_8 : decode cX5_init 8 = .ok (.newarray .int, 2) := by decide +kernel
theorem dX5_init_10 : decode cX5_init 10 = .ok (.putfield 9, 3) := by decide +kernel
theorem dX5_init_13 : decode cX5_init 13 = .ok (.aload_n 0, 1) := by decide +kernel
theorem dX5_init_14 : decode cX5_init 14 = .ok (.sipush 151, 3) := by decide +kernel
theorem dX5_init_17 : decode cX5_init 17 = .ok (.newarray .int, 2) := by decide +kernel
theorem dX5_init_19 : decode cX5_init 19 = .ok (.putfield 15, 3) := by decide +kernel
theorem dX5_init_22 : decode cX5_init 22 = .ok (.return_, 1) := by decide +kernel
theorem dX5_has_0 : decode cX5_has 0 = .ok (.aload_n 0, 1) := by decide +kernel
theorem dX5_has_1 : decode cX5_has 1 = .ok (.getfield 15, 3) := by decide +kernel
theorem dX5_has_4 : decode cX5_has 4 = .ok (.iload_n 1, 1) := by decide +kernel
theorem dX5_has_5 : decode cX5_has 5 = .ok (.iaload, 1) := by decide +kernel
theorem dX5_has_6 : decode cX5_has 6 = .ok (.ifCond .eq 7, 3) := by decide +kernel
theorem dX5_has_9 : decode cX5_has 9 = .ok (.iconst 1, 1) := by decide +kernel
theorem dX5_has_10 : decode cX5_has 10 = .ok (.goto 4, 3) := by decide +kernel
theorem dX5_has_13 : decode cX5_has 13 = .ok (.iconst 0, 1) := by decide +kernel
theorem dX5_has_14 : decode cX5_has 14 = .ok (.ireturn, 1) := by decide +kernel
theorem dX5_slotOf_0 : decode cX5_slotOf 0 = .ok (.aload_n 0, 1) := by decide +kernel
theorem dX5_slotOf_1 : decode cX5_slotOf 1 = .ok (.getfield 9, 3) := by decide +kernel
theorem dX5_slotOf_4 : decode cX5_slotOf 4 = .ok (.iload_n 1, 1) := by decide +kernel
theorem dX5_slotOf_5 : decode cX5_slotOf 5 = .ok (.iaload, 1) := by decide +kernel
theorem dX5_slotOf_6 : decode cX5_slotOf 6 = .ok (.ireturn, 1) := by decide +kernel
theorem dX5_kindOf_0 : decode cX5_kindOf 0 = .ok (.aload_n 0, 1) := by decide +kernel
theorem dX5_kindOf_1 : decode cX5_kindOf 1 = .ok (.getfield 15, 3) := by decide +kernel
theorem dX5_kindOf_4 : decode cX5_kindOf 4 = .ok (.iload_n 1, 1) := by decide +kernel
theorem dX5_kindOf_5 : decode cX5_kindOf 5 = .ok (.iaload, 1) := by decide +kernel
theorem dX5_kindOf_6 : decode cX5_kindOf 6 = .ok (.ireturn, 1) := by decide +kernel
theorem dX5_set_0 : decode cX5_set 0 = .ok (.aload_n 0, 1) := by decide +kernel
theorem dX5_set_1 : decode cX5_set 1 = .ok (.getfield 9, 3) := by decide +kernel
theorem dX5_set_4 : decode cX5_set 4 = .ok (.iload_n 1, 1) := by decide +kernel
theorem dX5_set_5 : decode cX5_set 5 = .ok (.iload_n 2, 1) := by decide +kernel
theorem dX5_set_6 : decode cX5_set 6 = .ok (.iastore, 1) := by decide +kernel
theorem dX5_set_7 : decode cX5_set 7 = .ok (.aload_n 0, 1) := by decide +kernel
theorem dX5_set_8 : decode cX5_set 8 = .ok (.getfield 15, 3) := by decide +kernel
theorem dX5_set_11 : decode cX5_set 11 = .ok (.iload_n 1, 1) := by decide +kernel
theorem dX5_set_12 : decode cX5_set 12 = .ok (.iload_n 3, 1) := by decide +kernel
theorem dX5_set_13 : decode cX5_set 13 = .ok (.iastore, 1) := by decide +kernel
theorem dX5_set_14 : decode cX5_set 14 = .ok (.return_, 1) := by decide +kernel
theorem dX5_clear_0 : decode cX5_clear 0 = .ok (.aload_n 0, 1) := by decide +kernel
theorem dX5_clear_1 : decode cX5_clear 1 = .ok (.getfield 15, 3) := by decide +kernel
theorem dX5_clear_4 : decode cX5_clear 4 = .ok (.iload_n 1, 1) := by decide +kernel
theorem dX5_clear_5 : decode cX5_clear 5 = .ok (.iconst 0, 1) := by decide +kernel
theorem dX5_clear_6 : decode cX5_clear 6 = .ok (.iastore, 1) := by decide +kernel
theorem dX5_clear_7 : decode cX5_clear 7 = .ok (.return_, 1) := by decide +kernel
theorem dX6_init_0 : decode cX6_init 0 = .ok (.aload_n 0, 1) := by decide +kernel
theorem dX6_init_1 : decode cX6_init 1 = .ok (.invokespecial 3, 3) := by decide +kernel
theorem dX6_init_4 : decode cX6_init 4 = .ok (.aload_n 0, 1) := by decide +kernel
theorem dX6_init_5 : decode cX6_init 5 = .ok (.sipush 512, 3) := by decide +kernel
theorem dX6_init_8 : decode cX6_init 8 = .ok (.newarray .int, 2) := by decide +kernel
theorem dX6_init_10 : decode cX6_init 10 = .ok (.putfield 9, 3) := by decide +kernel
theorem dX6_init_13 : decode cX6_init 13 = .ok (.aload_n 0, 1) := by decide +kernel
theorem dX6_init_14 : decode cX6_init 14 = .ok (.sipush 512, 3) := by decide +kernel
theorem dX6_init_17 : decode cX6_init 17 = .ok (.newarray .int, 2) := by decide +kernel
theorem dX6_init_19 : decode cX6_init 19 = .ok (.putfield 15, 3) := by decide +kernel
theorem dX6_init_22 : decode cX6_init 22 = .ok (.aload_n 0, 1) := by decide +kernel
theorem dX6_init_23 : decode cX6_init 23 = .ok (.sipush 512, 3) := by decide +kernel
theorem dX6_init_26 : decode cX6_init 26 = .ok (.newarray .int, 2) := by decide +kernel
theorem dX6_init_28 : decode cX6_init 28 = .ok (.putfield 18, 3) := by decide +kernel
theorem dX6_init_31 : decode cX6_init 31 = .ok (.aload_n 0, 1) := by decide +kernel
theorem dX6_init_32 : decode cX6_init 32 = .ok (.sipush 512, 3) := by decide +kernel
theorem dX6_init_35 : decode cX6_init 35 = .ok (.newarray .boolean, 2) := by decide +kernel
theorem dX6_init_37 : decode cX6_init 37 = .ok (.putfield 21, 3) := by decide +kernel
theorem dX6_init_40 : decode cX6_init 40 = .ok (.aload_n 0, 1) := by decide +kernel
theorem dX6_init_41 : decode cX6_init 41 = .ok (.sipush 512, 3) := by decide +kernel
theorem dX6_init_44 : decode cX6_init 44 = .ok (.newarray .int, 2) := by decide +kernel
theorem dX6_init_46 : decode cX6_init 46 = .ok (.putfield 25, 3) := by decide +kernel
theorem dX6_init_49 : decode cX6_init 49 = .ok (.aload_n 0, 1) := by decide +kernel
theorem dX6_init_50 : decode cX6_init 50 = .ok (.iconst 0, 1) := by decide +kernel
theorem dX6_init_51 : decode cX6_init 51 = .ok (.putfield 28, 3) := by decide +kernel
theorem dX6_init_54 : decode cX6_init 54 = .ok (.aload_n 0, 1) := by decide +kernel
theorem dX6_init_55 : decode cX6_init 55 = .ok (.sipush 512, 3) := by decide +kernel
theorem dX6_init_58 : decode cX6_init 58 = .ok (.newarray .int, 2) := by decide +kernel
theorem dX6_init_60 : decode cX6_init 60 = .ok (.putfield 32, 3) := by decide +kernel
theorem dX6_init_63 : decode cX6_init 63 = .ok (.aload_n 0, 1) := by decide +kernel
theorem dX6_init_64 : decode cX6_init 64 = .ok (.sipush 512, 3) := by decide +kernel
theorem dX6_init_67 : decode cX6_init 67 = .ok (.newarray .int, 2) := by decide +kernel
theorem dX6_init_69 : decode cX6_init 69 = .ok (.putfield 35, 3) := by decide +kernel
theorem dX6_init_72 : decode cX6_init 72 = .ok (.return_, 1) := by decide +kernel
theorem dX6_isFull_0 : decode cX6_isFull 0 = .ok (.aload_n 0, 1) := by decide +kernel
theorem dX6_isFull_1 : decode cX6_isFull 1 = .ok (.getfield 28, 3) := by decide +kernel
theorem dX6_isFull_4 : decode cX6_isFull 4 = .ok (.sipush 512, 3) := by decide +kernel
theorem dX6_isFull_7 : decode cX6_isFull 7 = .ok (.if_icmp .ne 7, 3) := by decide +kernel
theorem dX6_isFull_10 : decode cX6_isFull 10 = .ok (.iconst 1, 1) := by decide +kernel
theorem dX6_isFull_11 : decode cX6_isFull 11 = .ok (.goto 4, 3) := by decide +kernel
theorem dX6_isFull_14 : decode cX6_isFull 14 = .ok (.iconst 0, 1) := by decide +kernel
theorem dX6_isFull_15 : decode cX6_isFull 15 = .ok (.ireturn, 1) := by decide +kernel
theorem dX6_add_0 : decode cX6_add 0 = .ok (.aload_n 0, 1) := by decide +kernel
theorem dX6_add_1 : decode cX6_add 1 = .ok (.getfield 9, 3) := by decide +kernel
theorem dX6_add_4 : decode cX6_add 4 = .ok (.aload_n 0, 1) := by decide +kernel
theorem dX6_add_5 : decode cX6_add 5 = .ok (.getfield 28, 3) := by decide +kernel
theorem dX6_add_8 : decode cX6_add 8 = .ok (.iload_n 1, 1) := by decide +kernel
theorem dX6_add_9 : decode cX6_add 9 = .ok (.iastore, 1) := by decide +kernel
theorem dX6_add_10 : decode cX6_add 10 = .ok (.aload_n 0, 1) := by decide +kernel
theorem dX6_add_11 : decode cX6_add 11 = .ok (.getfield 15, 3) := by decide +kernel
theorem dX6_add_14 : decode cX6_add 14 = .ok (.aload_n 0, 1) := by decide +kernel
theorem dX6_add_15 : decode cX6_add 15 = .ok (.getfield 28, 3) := by decide +kernel
theorem dX6_add_18 : decode cX6_add 18 = .ok (.iload_n 2, 1) := by decide +kernel
theorem dX6_add_19 : decode cX6_add 19 = .ok (.iastore, 1) := by decide +kernel
theorem dX6_add_20 : decode cX6_add 20 = .ok (.aload_n 0, 1) := by decide +kernel
theorem dX6_add_21 : decode cX6_add 21 = .ok (.getfield 18, 3) := by decide +kernel
theorem dX6_add_24 : decode cX6_add 24 = .ok (.aload_n 0, 1) := by decide +kernel
theorem dX6_add_25 : decode cX6_add 25 = .ok (.getfield 28, 3) := by decide +kernel
theorem dX6_add_28 : decode cX6_add 28 = .ok (.iload_n 3, 1) := by decide +kernel
theorem dX6_add_29 : decode cX6_add 29 = .ok (.iastore, 1) := by decide +kernel
theorem dX6_add_30 : decode cX6_add 30 = .ok (.aload_n 0, 1) := by decide +kernel
theorem dX6_add_31 : decode cX6_add 31 = .ok (.getfield 21, 3) := by decide +kernel
theorem dX6_add_34 : decode cX6_add 34 = .ok (.aload_n 0, 1) := by decide +kernel
theorem dX6_add_35 : decode cX6_add 35 = .ok (.getfield 28, 3) := by decide +kernel
theorem dX6_add_38 : decode cX6_add 38 = .ok (.iload 4, 2) := by decide +kernel
theorem dX6_add_40 : decode cX6_add 40 = .ok (.bastore, 1) := by decide +kernel
theorem dX6_add_41 : decode cX6_add 41 = .ok (.aload_n 0, 1) := by decide +kernel
theorem dX6_add_42 : decode cX6_add 42 = .ok (.getfield 25, 3) := by decide +kernel
theorem dX6_add_45 : decode cX6_add 45 = .ok (.aload_n 0, 1) := by decide +kernel
theorem dX6_add_46 : decode cX6_add 46 = .ok (.getfield 28, 3) := by decide +kernel
theorem dX6_add_49 : decode cX6_add 49 = .ok (.iload 5, 2) := by decide +kernel
theorem dX6_add_51 : decode cX6_add 51 = .ok (.iastore, 1) := by decide +kernel
theorem dX6_add_52 : decode cX6_add 52 = .ok (.aload_n 0, 1) := by decide +kernel
theorem dX6_add_53 : decode cX6_add 53 = .ok (.dup, 1) := by decide +kernel
theorem dX6_add_54 : decode cX6_add 54 = .ok (.getfield 28, 3) := by decide +kernel
theorem dX6_add_57 : decode cX6_add 57 = .ok (.iconst 1, 1) := by decide +kernel
theorem dX6_add_58 : decode cX6_add 58 = .ok (.iadd, 1) := by decide +kernel
theorem dX6_add_59 : decode cX6_add 59 = .ok (.putfield 28, 3) := by decide +kernel
theorem dX6_add_62 : decode cX6_add 62 = .ok (.return_, 1) := by decide +kernel
set_option maxRecDepth 20000 in
theorem ggX6_findSeen_J7_fill_53178 : GoodIn wsX6_findSeen wsJ7_fill_53178 := goodIn_r _ [8] (by decide +kernel) (by decide +kernel)
set_option maxRecDepth 20000 in
theorem gX6_findSeen_J7_fill_53178 : GoodIn wsX6_findSeen (va_wsS RX6 38 yJ7_fill_53178 wsJ7_fill_53178) := goodIn_app (goodIn_of _ (by decide +kernel)) ggX6_findSeen_J7_fill_53178
theorem dX6_findSeen_0 : decode cX6_findSeen 0 = .ok (.aload_n 0, 1) := by decide +kernel
theorem dX6_findSeen_1 : decode cX6_findSeen 1 = .ok (.getfield 32, 3) := by decide +kernel
theorem dX6_findSeen_4 : decode cX6_findSeen 4 = .ok (.iconst (-1), 1) := by decide +kernel
theorem dX6_findSeen_5 : decode cX6_findSeen 5 = .ok (.invokestatic 38, 3) := by decide +kernel
theorem dX6_findSeen_8 : decode cX6_findSeen 8 = .ok (.iconst 0, 1) := by decide +kernel
theorem dX6_findSeen_9 : decode cX6_findSeen 9 = .ok (.istore_n 2, 1) := by decide +kernel
theorem dX6_findSeen_10 : decode cX6_findSeen 10 = .ok (.iload_n 2, 1) := by decide +kernel
theorem dX6_findSeen_11 : decode cX6_findSeen 11 = .ok (.aload_n 0, 1) := by decide +kernel
theorem dX6_findSeen_12 : decode cX6_findSeen 12 = .ok (.getfield 28, 3) := by decide +kernel
theorem dX6_findSeen_15 : decode cX6_findSeen 15 = .ok (.if_icmp .ge 42, 3) := by decide +kernel
theorem dX6_findSeen_18 : decode cX6_findSeen 18 = .ok (.aload_n 0, 1) := by decide +kernel
theorem dX6_findSeen_19 : decode cX6_findSeen 19 = .ok (.getfield 9, 3) := by decide +kernel
theorem dX6_findSeen_22 : decode cX6_findSeen 22 = .ok (.iload_n 2, 1) := by decide +kernel
theorem dX6_findSeen_23 : decode cX6_findSeen 23 = .ok (.iaload, 1) := by decide +kernel
theorem dX6_findSeen_24 : decode cX6_findSeen 24 = .ok (.iconst (-1), 1) := by decide +kernel
theorem dX6_findSeen_25 : decode cX6_findSeen 25 = .ok (.if_icmp .eq 26, 3) := by decide +kernel
theorem dX6_findSeen_28 : decode cX6_findSeen 28 = .ok (.aload_n 1, 1) := by decide +kernel
theorem dX6_findSeen_29 : decode cX6_findSeen 29 = .ok (.aload_n 0, 1) := by decide +kernel
theorem dX6_findSeen_30 : decode cX6_findSeen 30 = .ok (.getfield 9, 3) := by decide +kernel
theorem dX6_findSeen_33 : decode cX6_findSeen 33 = .ok (.iload_n 2, 1) := by decide +kernel
theorem dX6_findSeen_34 : decode cX6_findSeen 34 = .ok (.iaload, 1) := by decide +kernel
theorem dX6_findSeen_35 : decode cX6_findSeen 35 = .ok (.baload, 1) := by decide +kernel
theorem dX6_findSeen_36 : decode cX6_findSeen 36 = .ok (.ifCond .eq 15, 3) := by decide +kernel
theorem dX6_findSeen_39 : decode cX6_findSeen 39 = .ok (.aload_n 0, 1) := by decide +kernel
theorem dX6_findSeen_40 : decode cX6_findSeen 40 = .ok (.getfield 32, 3) := by decide +kernel
theorem dX6_findSeen_43 : decode cX6_findSeen 43 = .ok (.aload_n 0, 1) := by decide +kernel
theorem dX6_findSeen_44 : decode cX6_findSeen 44 = .ok (.getfield 15, 3) := by decide +kernel
theorem dX6_findSeen_47 : decode cX6_findSeen 47 = .ok (.iload_n 2, 1) := by decide +kernel
theorem dX6_findSeen_48 : decode cX6_findSeen 48 = .ok (.iaload, 1) := by decide +kernel
theorem dX6_findSeen_49 : decode cX6_findSeen 49 = .ok (.iload_n 2, 1) := by decide +kernel
theorem dX6_findSeen_50 : decode cX6_findSeen 50 = .ok (.iastore, 1) := by decide +kernel
theorem dX6_findSeen_51 : decode cX6_findSeen 51 = .ok (.iinc 2 1, 3) := by decide +kernel
theorem dX6_findSeen_54 : decode cX6_findSeen 54 = .ok (.goto (-44), 3) := by decide +kernel
theorem dX6_findSeen_57 : decode cX6_findSeen 57 = .ok (.return_, 1) := by decide +kernel
theorem dX6_hasFound_0 : decode cX6_hasFound 0 = .ok (.aload_n 0, 1) := by decide +kernel
theorem dX6_hasFound_1 : decode cX6_hasFound 1 = .ok (.getfield 32, 3) := by decide +kernel
theorem dX6_hasFound_4 : decode cX6_hasFound 4 = .ok (.iload_n 1, 1) := by decide +kernel
theorem dX6_hasFound_5 : decode cX6_hasFound 5 = .ok (.iaload, 1) := by decide +kernel
theorem dX6_hasFound_6 : decode cX6_hasFound 6 = .ok (.iconst (-1), 1) := by decide +kernel
theorem dX6_hasFound_7 : decode cX6_hasFound 7 = .ok (.if_icmp .eq 21, 3) := by decide +kernel
theorem dX6_hasFound_10 : decode cX6_hasFound 10 = .ok (.aload_n 0, 1) := by decide +kernel
theorem dX6_hasFound_11 : decode cX6_hasFound 11 = .ok (.getfield 21, 3) := by decide +kernel
theorem dX6_hasFound_14 : decode cX6_hasFound 14 = .ok (.aload_n 0, 1) := by decide +kernel
theorem dX6_hasFound_15 : decode cX6_hasFound 15 = .ok (.getfield 32, 3) := by decide +kernel
theorem dX6_hasFound_18 : decode cX6_hasFound 18 = .ok (.iload_n 1, 1) := by decide +kernel
theorem dX6_hasFound_19 : decode cX6_hasFound 19 = .ok (.iaload, 1) := by decide +kernel
theorem dX6_hasFound_20 : decode cX6_hasFound 20 = .ok (.baload, 1) := by decide +kernel
theorem dX6_hasFound_21 : decode cX6_hasFound 21 = .ok (.ifCond .ne 7, 3) := by decide +kernel
theorem dX6_hasFound_24 : decode cX6_hasFound 24 = .ok (.iconst 1, 1) := by decide +kernel
theorem dX6_hasFound_25 : decode cX6_hasFound 25 = .ok (.goto 4, 3) := by decide +kernel
theorem dX6_hasFound_28 : decode cX6_hasFound 28 = .ok (.iconst 0, 1) := by decide +kernel
theorem dX6_hasFound_29 : decode cX6_hasFound 29 = .ok (.ireturn, 1) := by decide +kernel
theorem dX6_valueFound_0 : decode cX6_valueFound 0 = .ok (.aload_n 0, 1) := by decide +kernel
theorem dX6_valueFound_1 : decode cX6_valueFound 1 = .ok (.getfield 32, 3) := by decide +kernel
theorem dX6_valueFound_4 : decode cX6_valueFound 4 = .ok (.iload_n 1, 1) := by decide +kernel
theorem dX6_valueFound_5 : decode cX6_valueFound 5 = .ok (.iaload, 1) := by decide +kernel
theorem dX6_valueFound_6 : decode cX6_valueFound 6 = .ok (.iconst (-1), 1) := by decide +kernel
theorem dX6_valueFound_7 : decode cX6_valueFound 7 = .ok (.if_icmp .ne 9, 3) := by decide +kernel
theorem dX6_valueFound_10 : decode cX6_valueFound 10 = .ok (.ldc2_w 44, 3) := by decide +kernel
theorem dX6_valueFound_13 : decode cX6_valueFound 13 = .ok (.goto 15, 3) := by decide +kernel
theorem dX6_valueFound_16 : decode cX6_valueFound 16 = .ok (.aload_n 0, 1) := by decide +kernel
theorem dX6_valueFound_17 : decode cX6_valueFound 17 = .ok (.getfield 18, 3) := by decide +kernel
theorem dX6_valueFound_20 : decode cX6_valueFound 20 = .ok (.aload_n 0, 1) := by decide +kernel
theorem dX6_valueFound_21 : decode cX6_valueFound 21 = .ok (.getfield 32, 3) := by decide +kernel
theorem dX6_valueFound_24 : decode cX6_valueFound 24 = .ok (.iload_n 1, 1) := by decide +kernel
theorem dX6_valueFound_25 : decode cX6_valueFound 25 = .ok (.iaload, 1) := by decide +kernel
theorem dX6_valueFound_26 : decode cX6_valueFound 26 = .ok (.iaload, 1) := by decide +kernel
theorem dX6_valueFound_27 : decode cX6_valueFound 27 = .ok (.i2l, 1) := by decide +kernel
theorem dX6_valueFound_28 : decode cX6_valueFound 28 = .ok (.lreturn, 1) := by decide +kernel
set_option maxRecDepth 20000 in
theorem ggX6_keysOf_X6_findOwn : GoodIn wsX6_keysOf wsX6_findOwn := goodIn_r _ [6, 7, 8, 9, 10, 11, 12, 13, 14, 15, 16, 17, 18, 19, 20, 21] (by decide +kernel) (by decide +kernel)
set_option maxRecDepth 20000 in
theorem gX6_keysOf_X6_findOwn : GoodIn wsX6_keysOf (wsV RX6 46 RX6 yX6_findOwn wsX6_findOwn) := goodIn_app (goodIn_of _ (by decide +kernel)) ggX6_keysOf_X6_findOwn
theorem dX6_keysOf_0 : decode cX6_keysOf 0 = .ok (.aload_n 0, 1) := by decide +kernel
theorem dX6_keysOf_1 : decode cX6_keysOf 1 = .ok (.iload_n 1, 1) := by decide +kernel
theorem dX6_keysOf_2 : decode cX6_keysOf 2 = .ok (.aload_n 0, 1) := by decide +kernel
theorem dX6_keysOf_3 : decode cX6_keysOf 3 = .ok (.getfield 32, 3) := by decide +kernel
theorem dX6_keysOf_6 : decode cX6_keysOf 6 = .ok (.invokevirtual 46, 3) := by decide +kernel
theorem dX6_keysOf_9 : decode cX6_keysOf 9 = .ok (.iconst 0, 1) := by decide +kernel
theorem dX6_keysOf_10 : decode cX6_keysOf 10 = .ok (.istore_n 2, 1) := by decide +kernel
theorem dX6_keysOf_11 : decode cX6_keysOf 11 = .ok (.iconst 0, 1) := by decide +kernel
theorem dX6_keysOf_12 : decode cX6_keysOf 12 = .ok (.istore_n 3, 1) := by decide +kernel
theorem dX6_keysOf_13 : decode cX6_keysOf 13 = .ok (.iload_n 3, 1) := by decide +kernel
theorem dX6_keysOf_14 : decode cX6_keysOf 14 = .ok (.sipush 512, 3) := by decide +kernel
theorem dX6_keysOf_17 : decode cX6_keysOf 17 = .ok (.if_icmp .ge 22, 3) := by decide +kernel
theorem dX6_keysOf_20 : decode cX6_keysOf 20 = .ok (.aload_n 0, 1) := by decide +kernel
theorem dX6_keysOf_21 : decode cX6_keysOf 21 = .ok (.getfield 32, 3) := by decide +kernel
theorem dX6_keysOf_24 : decode cX6_keysOf 24 = .ok (.iload_n 3, 1) := by decide +kernel
theorem dX6_keysOf_25 : decode cX6_keysOf 25 = .ok (.iaload, 1) := by decide +kernel
theorem dX6_keysOf_26 : decode cX6_keysOf 26 = .ok (.iconst (-1), 1) := by decide +kernel
theorem dX6_keysOf_27 : decode cX6_keysOf 27 = .ok (.if_icmp .eq 6, 3) := by decide +kernel
theorem dX6_keysOf_30 : decode cX6_keysOf 30 = .ok (.iinc 2 1, 3) := by decide +kernel
theorem dX6_keysOf_33 : decode cX6_keysOf 33 = .ok (.iinc 3 1, 3) := by decide +kernel
theorem dX6_keysOf_36 : decode cX6_keysOf 36 = .ok (.goto (-23), 3) := by decide +kernel
theorem dX6_keysOf_39 : decode cX6_keysOf 39 = .ok (.iload_n 2, 1) := by decide +kernel
theorem dX6_keysOf_40 : decode cX6_keysOf 40 = .ok (.ireturn, 1) := by decide +kernel
set_option maxRecDepth 20000 in
theorem ggX6_undo_X6_findOwn : GoodIn wsX6_undo wsX6_findOwn := goodIn_r _ [7, 8, 9, 10, 11, 12, 13, 14, 26, 27, 28, 29, 30, 31, 32, 33] (by decide +kernel) (by decide +kernel)
set_option maxRecDepth 20000 in
theorem gX6_undo_X6_findOwn : GoodIn wsX6_undo (wsV RX6 46 RX6 yX6_findOwn wsX6_findOwn) := goodIn_app (goodIn_of _ (by decide +kernel)) ggX6_undo_X6_findOwn
set_option maxRecDepth 20000 in
theorem ggX6_undo_X6_dropFrom : GoodIn wsX6_undo wsX6_dropFrom := goodIn_r _ [18, 8, 9, 19, 26, 27, 28, 29, 30, 31, 32, 33] (by decide +kernel) (by decide +kernel)
set_option maxRecDepth 20000 in
theorem gX6_undo_X6_dropFrom : GoodIn wsX6_undo (wsV RX6 50 RX6 yX6_dropFrom wsX6_dropFrom) := goodIn_app (goodIn_of _ (by decide +kernel)) ggX6_undo_X6_dropFrom
set_option maxRecDepth 20000 in
theorem ggX6_undo_X6_sayTheSame : GoodIn wsX6_undo wsX6_sayTheSame := goodIn_r _ [23, 24, 25, 26, 27, 28, 29, 30, 31, 32, 33] (by decide +kernel) (by decide +kernel)
set_option maxRecDepth 20000 in
theorem gX6_undo_X6_sayTheSame : GoodIn wsX6_undo (wsV RX6 54 RX6 yX6_sayTheSame wsX6_sayTheSame) := goodIn_app (goodIn_of _ (by decide +kernel)) ggX6_undo_X6_sayTheSame
theorem dX6_undo_0 : decode cX6_undo 0 = .ok (.aload_n 0, 1) := by decide +kernel
theorem dX6_undo_1 : decode cX6_undo 1 = .ok (.iload_n 1, 1) := by decide +kernel
theorem dX6_undo_2 : decode cX6_undo 2 = .ok (.aload_n 0, 1) := by decide +kernel
theorem dX6_undo_3 : decode cX6_undo 3 = .ok (.getfield 32, 3) := by decide +kernel
theorem dX6_undo_6 : decode cX6_undo 6 = .ok (.invokevirtual 46, 3) := by decide +kernel
theorem dX6_undo_9 : decode cX6_undo 9 = .ok (.aload_n 0, 1) := by decide +kernel
theorem dX6_undo_10 : decode cX6_undo 10 = .ok (.iload_n 1, 1) := by decide +kernel
theorem dX6_undo_11 : decode cX6_undo 11 = .ok (.iload_n 2, 1) := by decide +kernel
theorem dX6_undo_12 : decode cX6_undo 12 = .ok (.invokevirtual 50, 3) := by decide +kernel
theorem dX6_undo_15 : decode cX6_undo 15 = .ok (.aload_n 0, 1) := by decide +kernel
theorem dX6_undo_16 : decode cX6_undo 16 = .ok (.iload_n 1, 1) := by decide +kernel
theorem dX6_undo_17 : decode cX6_undo 17 = .ok (.aload_n 0, 1) := by decide +kernel
theorem dX6_undo_18 : decode cX6_undo 18 = .ok (.getfield 35, 3) := by decide +kernel
theorem dX6_undo_21 : decode cX6_undo 21 = .ok (.invokevirtual 46, 3) := by decide +kernel
theorem dX6_undo_24 : decode cX6_undo 24 = .ok (.iconst 0, 1) := by decide +kernel
theorem dX6_undo_25 : decode cX6_undo 25 = .ok (.istore_n 3, 1) := by decide +kernel
theorem dX6_undo_26 : decode cX6_undo 26 = .ok (.iconst 0, 1) := by decide +kernel
theorem dX6_undo_27 : decode cX6_undo 27 = .ok (.istore 4, 2) := by decide +kernel
theorem dX6_undo_29 : decode cX6_undo 29 = .ok (.iload 4, 2) := by decide +kernel
theorem dX6_undo_31 : decode cX6_undo 31 = .ok (.sipush 512, 3) := by decide +kernel
theorem dX6_undo_34 : decode cX6_undo 34 = .ok (.if_icmp .ge 33, 3) := by decide +kernel
theorem dX6_undo_37 : decode cX6_undo 37 = .ok (.aload_n 0, 1) := by decide +kernel
theorem dX6_undo_38 : decode cX6_undo 38 = .ok (.aload_n 0, 1) := by decide +kernel
theorem dX6_undo_39 : decode cX6_undo 39 = .ok (.getfield 32, 3) := by decide +kernel
theorem dX6_undo_42 : decode cX6_undo 42 = .ok (.iload 4, 2) := by decide +kernel
theorem dX6_undo_44 : decode cX6_undo 44 = .ok (.iaload, 1) := by decide +kernel
theorem dX6_undo_45 : decode cX6_undo 45 = .ok (.aload_n 0, 1) := by decide +kernel
theorem dX6_undo_46 : decode cX6_undo 46 = .ok (.getfield 35, 3) := by decide +kernel
theorem dX6_undo_49 : decode cX6_undo 49 = .ok (.iload 4, 2) := by decide +kernel
theorem dX6_undo_51 : decode cX6_undo 51 = .ok (.iaload, 1) := by decide +kernel
theorem dX6_undo_52 : decode cX6_undo 52 = .ok (.invokevirtual 54, 3) := by decide +kernel
theorem dX6_undo_55 : decode cX6_undo 55 = .ok (.ifCond .ne 6, 3) := by decide +kernel
theorem dX6_undo_58 : decode cX6_undo 58 = .ok (.iinc 3 1, 3) := by decide +kernel
theorem dX6_undo_61 : decode cX6_undo 61 = .ok (.iinc 4 1, 3) := by decide +kernel
theorem dX6_undo_64 : decode cX6_undo 64 = .ok (.goto (-35), 3) := by decide +kernel
theorem dX6_undo_67 : decode cX6_undo 67 = .ok (.iload_n 3, 1) := by decide +kernel
theorem dX6_undo_68 : decode cX6_undo 68 = .ok (.ireturn, 1) := by decide +kernel
theorem dX6_handOver_0 : decode cX6_handOver 0 = .ok (.iconst 0, 1) := by decide +kernel
theorem dX6_handOver_1 : decode cX6_handOver 1 = .ok (.istore 4, 2) := by decide +kernel
theorem dX6_handOver_3 : decode cX6_handOver 3 = .ok (.iload 4, 2) := by decide +kernel
theorem dX6_handOver_5 : decode cX6_handOver 5 = .ok (.aload_n 0, 1) := by decide +kernel
theorem dX6_handOver_6 : decode cX6_handOver 6 = .ok (.getfield 28, 3) := by decide +kernel
theorem dX6_handOver_9 : decode cX6_handOver 9 = .ok (.if_icmp .ge 36, 3) := by decide +kernel
theorem dX6_handOver_12 : decode cX6_handOver 12 = .ok (.aload_n 0, 1) := by decide +kernel
theorem dX6_handOver_13 : decode cX6_handOver 13 = .ok (.getfield 9, 3) := by decide +kernel
theorem dX6_handOver_16 : decode cX6_handOver 16 = .ok (.iload 4, 2) := by decide +kernel
theorem dX6_handOver_18 : decode cX6_handOver 18 = .ok (.iaload, 1) := by decide +kernel
theorem dX6_handOver_19 : decode cX6_handOver 19 = .ok (.iload_n 1, 1) := by decide +kernel
theorem dX6_handOver_20 : decode cX6_handOver 20 = .ok (.if_icmp .ne 19, 3) := by decide +kernel
theorem dX6_handOver_23 : decode cX6_handOver 23 = .ok (.aload_n 0, 1) := by decide +kernel
theorem dX6_handOver_24 : decode cX6_handOver 24 = .ok (.getfield 9, 3) := by decide +kernel
theorem dX6_handOver_27 : decode cX6_handOver 27 = .ok (.iload 4, 2) := by decide +kernel
theorem dX6_handOver_29 : decode cX6_handOver 29 = .ok (.iload_n 2, 1) := by decide +kernel
theorem dX6_handOver_30 : decode cX6_handOver 30 = .ok (.iastore, 1) := by decide +kernel
theorem dX6_handOver_31 : decode cX6_handOver 31 = .ok (.aload_n 0, 1) := by decide +kernel
theorem dX6_handOver_32 : decode cX6_handOver 32 = .ok (.getfield 25, 3) := by decide +kernel
theorem dX6_handOver_35 : decode cX6_handOver 35 = .ok (.iload 4, 2) := by decide +kernel
theorem dX6_handOver_37 : decode cX6_handOver 37 = .ok (.iload_n 3, 1) := by decide +kernel
theorem dX6_handOver_38 : decode cX6_handOver 38 = .ok (.iastore, 1) := by decide +kernel
theorem dX6_handOver_39 : decode cX6_handOver 39 = .ok (.iinc 4 1, 3) := by decide +kernel
theorem dX6_handOver_42 : decode cX6_handOver 42 = .ok (.goto (-39), 3) := by decide +kernel
theorem dX6_handOver_45 : decode cX6_handOver 45 = .ok (.return_, 1) := by decide +kernel
set_option maxRecDepth 20000 in
theorem ggX6_drop_X6_dropFrom : GoodIn wsX6_drop wsX6_dropFrom := goodIn_r _ [5, 6, 7, 8, 9, 10, 11, 12, 13, 14, 15, 16] (by decide +kernel) (by decide +kernel)
set_option maxRecDepth 20000 in
theorem gX6_drop_X6_dropFrom : GoodIn wsX6_drop (wsV RX6 50 RX6 yX6_dropFrom wsX6_dropFrom) := goodIn_app (goodIn_of _ (by decide +kernel)) ggX6_drop_X6_dropFrom
theorem dX6_drop_0 : decode cX6_drop 0 = .ok (.aload_n 0, 1) := by decide +kernel
theorem dX6_drop_1 : decode cX6_drop 1 = .ok (.iload_n 1, 1) := by decide +kernel
theorem dX6_drop_2 : decode cX6_drop 2 = .ok (.iconst 0, 1) := by decide +kernel
theorem dX6_drop_3 : decode cX6_drop 3 = .ok (.invokevirtual 50, 3) := by decide +kernel
theorem dX6_drop_6 : decode cX6_drop 6 = .ok (.return_, 1) := by decide +kernel
theorem dX6_dropFrom_0 : decode cX6_dropFrom 0 = .ok (.iconst 0, 1) := by decide +kernel
theorem dX6_dropFrom_1 : decode cX6_dropFrom 1 = .ok (.istore_n 3, 1) := by decide +kernel
theorem dX6_dropFrom_2 : decode cX6_dropFrom 2 = .ok (.iload_n 3, 1) := by decide +kernel
theorem dX6_dropFrom_3 : decode cX6_dropFrom 3 = .ok (.aload_n 0, 1) := by decide +kernel
theorem dX6_dropFrom_4 : decode cX6_dropFrom 4 = .ok (.getfield 28, 3) := by decide +kernel
theorem dX6_dropFrom_7 : decode cX6_dropFrom 7 = .ok (.if_icmp .ge 36, 3) := by decide +kernel
theorem dX6_dropFrom_10 : decode cX6_dropFrom 10 = .ok (.aload_n 0, 1) := by decide +kernel
theorem dX6_dropFrom_11 : decode cX6_dropFrom 11 = .ok (.getfield 9, 3) := by decide +kernel
theorem dX6_dropFrom_14 : decode cX6_dropFrom 14 = .ok (.iload_n 3, 1) := by decide +kernel
theorem dX6_dropFrom_15 : decode cX6_dropFrom 15 = .ok (.iaload, 1) := by decide +kernel
theorem dX6_dropFrom_16 : decode cX6_dropFrom 16 = .ok (.iload_n 1, 1) := by decide +kernel
theorem dX6_dropFrom_17 : decode cX6_dropFrom 17 = .ok (.if_icmp .ne 20, 3) := by decide +kernel
theorem dX6_dropFrom_20 : decode cX6_dropFrom 20 = .ok (.aload_n 0, 1) := by decide +kernel
theorem dX6_dropFrom_21 : decode cX6_dropFrom 21 = .ok (.getfield 25, 3) := by decide +kernel
theorem dX6_dropFrom_24 : decode cX6_dropFrom 24 = .ok (.iload_n 3, 1) := by decide +kernel
theorem dX6_dropFrom_25 : decode cX6_dropFrom 25 = .ok (.iaload, 1) := by decide +kernel
theorem dX6_dropFrom_26 : decode cX6_dropFrom 26 = .ok (.iload_n 2, 1) := by decide +kernel
theorem dX6_dropFrom_27 : decode cX6_dropFrom 27 = .ok (.if_icmp .lt 10, 3) := by decide +kernel
theorem dX6_dropFrom_30 : decode cX6_dropFrom 30 = .ok (.aload_n 0, 1) := by decide +kernel
theorem dX6_dropFrom_31 : decode cX6_dropFrom 31 = .ok (.getfield 9, 3) := by decide +kernel
theorem dX6_dropFrom_34 : decode cX6_dropFrom 34 = .ok (.iload_n 3, 1) := by decide +kernel
theorem dX6_dropFrom_35 : decode cX6_dropFrom 35 = .ok (.iconst (-1), 1) := by decide +kernel
theorem dX6_dropFrom_36 : decode cX6_dropFrom 36 = .ok (.iastore, 1) := by decide +kernel
theorem dX6_dropFrom_37 : decode cX6_dropFrom 37 = .ok (.iinc 3 1, 3) := by decide +kernel
theorem dX6_dropFrom_40 : decode cX6_dropFrom 40 = .ok (.goto (-38), 3) := by decide +kernel
theorem dX6_dropFrom_43 : decode cX6_dropFrom 43 = .ok (.return_, 1) := by decide +kernel
set_option maxRecDepth 20000 in
theorem ggX6_findOwn_J7_fill_53178 : GoodIn wsX6_findOwn wsJ7_fill_53178 := goodIn_r _ [7] (by decide +kernel) (by decide +kernel)
set_option maxRecDepth 20000 in
theorem gX6_findOwn_J7_fill_53178 : GoodIn wsX6_findOwn (va_wsS RX6 38 yJ7_fill_53178 wsJ7_fill_53178) := goodIn_app (goodIn_of _ (by decide +kernel)) ggX6_findOwn_J7_fill_53178
theorem dX6_findOwn_0 : decode cX6_findOwn 0 = .ok (.aload_n 2, 1) := by decide +kernel
theorem dX6_findOwn_1 : decode cX6_findOwn 1 = .ok (.iconst (-1), 1) := by decide +kernel
theorem dX6_findOwn_2 : decode cX6_findOwn 2 = .ok (.invokestatic 38, 3) := by decide +kernel
theorem dX6_findOwn_5 : decode cX6_findOwn 5 = .ok (.iconst 0, 1) := by decide +kernel
theorem dX6_findOwn_6 : decode cX6_findOwn 6 = .ok (.istore_n 3, 1) := by decide +kernel
theorem dX6_findOwn_7 : decode cX6_findOwn 7 = .ok (.iload_n 3, 1) := by decide +kernel
theorem dX6_findOwn_8 : decode cX6_findOwn 8 = .ok (.aload_n 0, 1) := by decide +kernel
theorem dX6_findOwn_9 : decode cX6_findOwn 9 = .ok (.getfield 28, 3) := by decide +kernel
theorem dX6_findOwn_12 : decode cX6_findOwn 12 = .ok (.if_icmp .ge 28, 3) := by decide +kernel
theorem dX6_findOwn_15 : decode cX6_findOwn 15 = .ok (.aload_n 0, 1) := by decide +kernel
theorem dX6_findOwn_16 : decode cX6_findOwn 16 = .ok (.getfield 9, 3) := by decide +kernel
theorem dX6_findOwn_19 : decode cX6_findOwn 19 = .ok (.iload_n 3, 1) := by decide +kernel
theorem dX6_findOwn_20 : decode cX6_findOwn 20 = .ok (.iaload, 1) := by decide +kernel
theorem dX6_findOwn_21 : decode cX6_findOwn 21 = .ok (.iload_n 1, 1) := by decide +kernel
theorem dX6_findOwn_22 : decode cX6_findOwn 22 = .ok (.if_icmp .ne 12, 3) := by decide +kernel
theorem dX6_findOwn_25 : decode cX6_findOwn 25 = .ok (.aload_n 2, 1) := by decide +kernel
theorem dX6_findOwn_26 : decode cX6_findOwn 26 = .ok (.aload_n 0, 1) := by decide +kernel
theorem dX6_findOwn_27 : decode cX6_findOwn 27 = .ok (.getfield 15, 3) := by decide +kernel
theorem dX6_findOwn_30 : decode cX6_findOwn 30 = .ok (.iload_n 3, 1) := by decide +kernel
theorem dX6_findOwn_31 : decode cX6_findOwn 31 = .ok (.iaload, 1) := by decide +kernel
theorem dX6_findOwn_32 : decode cX6_findOwn 32 = .ok (.iload_n 3, 1) := by decide +kernel
theorem dX6_findOwn_33 : decode cX6_findOwn 33 = .ok (.iastore, 1) := by decide +kernel
theorem dX6_findOwn_34 : decode cX6_findOwn 34 = .ok (.iinc 3 1, 3) := by decide +kernel
theorem dX6_findOwn_37 : decode cX6_findOwn 37 = .ok (.goto (-30), 3) := by decide +kernel
theorem dX6_findOwn_40 : decode cX6_findOwn 40 = .ok (.return_, 1) := by decide +kernel
theorem dX6_sayTheSame_0 : decode cX6_sayTheSame 0 = .ok (.iload_n 1, 1) := by decide +kernel
theorem dX6_sayTheSame_1 : decode cX6_sayTheSame 1 = .ok (.iconst (-1), 1) := by decide +kernel
theorem dX6_sayTheSame_2 : decode cX6_sayTheSame 2 = .ok (.if_icmp .eq 8, 3) := by decide +kernel
theorem dX6_sayTheSame_5 : decode cX6_sayTheSame 5 = .ok (.iload_n 2, 1) := by decide +kernel
theorem dX6_sayTheSame_6 : decode cX6_sayTheSame 6 = .ok (.iconst (-1), 1) := by decide +kernel
theorem dX6_sayTheSame_7 : decode cX6_sayTheSame 7 = .ok (.if_icmp .ne 14, 3) := by decide +kernel
theorem dX6_sayTheSame_10 : decode cX6_sayTheSame 10 = .ok (.iload_n 1, 1) := by decide +kernel
theorem dX6_sayTheSame_11 : decode cX6_sayTheSame 11 = .ok (.iload_n 2, 1) := by decide +kernel
theorem dX6_sayTheSame_12 : decode cX6_sayTheSame 12 = .ok (.if_icmp .ne 7, 3) := by decide +kernel
theorem dX6_sayTheSame_15 : decode cX6_sayTheSame 15 = .ok (.iconst 1, 1) := by decide +kernel
theorem dX6_sayTheSame_16 : decode cX6_sayTheSame 16 = .ok (.goto 4, 3) := by decide +kernel
theorem dX6_sayTheSame_19 : decode cX6_sayTheSame 19 = .ok (.iconst 0, 1) := by decide +kernel
theorem dX6_sayTheSame_20 : decode cX6_sayTheSame 20 = .ok (.ireturn, 1) := by decide +kernel
theorem dX6_sayTheSame_21 : decode cX6_sayTheSame 21 = .ok (.aload_n 0, 1) := by decide +kernel
theorem dX6_sayTheSame_22 : decode cX6_sayTheSame 22 = .ok (.getfield 21, 3) := by decide +kernel
theorem dX6_sayTheSame_25 : decode cX6_sayTheSame 25 = .ok (.iload_n 1, 1) := by decide +kernel
theorem dX6_sayTheSame_26 : decode cX6_sayTheSame 26 = .ok (.baload, 1) := by decide +kernel
theorem dX6_sayTheSame_27 : decode cX6_sayTheSame 27 = .ok (.aload_n 0, 1) := by decide +kernel
theorem dX6_sayTheSame_28 : decode cX6_sayTheSame 28 = .ok (.getfield 21, 3) := by decide +kernel
theorem dX6_sayTheSame_31 : decode cX6_sayTheSame 31 = .ok (.iload_n 2, 1) := by decide +kernel
theorem dX6_sayTheSame_32 : decode cX6_sayTheSame 32 = .ok (.baload, 1) := by decide +kernel
theorem dX6_sayTheSame_33 : decode cX6_sayTheSame 33 = .ok (.if_icmp .ne 31, 3) := by decide +kernel
theorem dX6_sayTheSame_36 : decode cX6_sayTheSame 36 = .ok (.aload_n 0, 1) := by decide +kernel
theorem dX6_sayTheSame_37 : decode cX6_sayTheSame 37 = .ok (.getfield 21, 3) := by decide +kernel
theorem dX6_sayTheSame_40 : decode cX6_sayTheSame 40 = .ok (.iload_n 1, 1) := by decide +kernel
theorem dX6_sayTheSame_41 : decode cX6_sayTheSame 41 = .ok (.baload, 1) := by decide +kernel
theorem dX6_sayTheSame_42 : decode cX6_sayTheSame 42 = .ok (.ifCond .ne 18, 3) := by decide +kernel
theorem dX6_sayTheSame_45 : decode cX6_sayTheSame 45 = .ok (.aload_n 0, 1) := by decide +kernel
theorem dX6_sayTheSame_46 : decode cX6_sayTheSame 46 = .ok (.getfield 18, 3) := by decide +kernel
theorem dX6_sayTheSame_49 : decode cX6_sayTheSame 49 = .ok (.iload_n 1, 1) := by decide +kernel
theorem dX6_sayTheSame_50 : decode cX6_sayTheSame 50 = .ok (.iaload, 1) := by decide +kernel
theorem dX6_sayTheSame_51 : decode cX6_sayTheSame 51 = .ok (.aload_n 0, 1) := by decide +kernel
theorem dX6_sayTheSame_52 : decode cX6_sayTheSame 52 = .ok (.getfield 18, 3) := by decide +kernel
theorem dX6_sayTheSame_55 : decode cX6_sayTheSame 55 = .ok (.iload_n 2, 1) := by decide +kernel
theorem dX6_sayTheSame_56 : decode cX6_sayTheSame 56 = .ok (.iaload, 1) := by decide +kernel
theorem dX6_sayTheSame_57 : decode cX6_sayTheSame 57 = .ok (.if_icmp .ne 7, 3) := by decide +kernel
theorem dX6_sayTheSame_60 : decode cX6_sayTheSame 60 = .ok (.iconst 1, 1) := by decide +kernel
theorem dX6_sayTheSame_61 : decode cX6_sayTheSame 61 = .ok (.goto 4, 3) := by decide +kernel
theorem dX6_sayTheSame_64 : decode cX6_sayTheSame 64 = .ok (.iconst 0, 1) := by decide +kernel
theorem dX6_sayTheSame_65 : decode cX6_sayTheSame 65 = .ok (.ireturn, 1) := by decide +kernel
set_option maxRecDepth 20000 in
theorem ggX7_init_X0_init : GoodIn wsX7_init wsX0_init := goodIn_r _ [33, 34, 2, 3, 35, 36, 37, 38, 39, 40, 79, 80, 81, 82] (by decide +kernel) (by decide +kernel)
set_option maxRecDepth 20000 in
theorem gX7_init_X0_init_n9 : GoodIn wsX7_init (wsX0_init) := ggX7_init_X0_init
set_option maxRecDepth 20000 in
theorem ggX7_init_X2_init : GoodIn wsX7_init wsX2_init := goodIn_r _ [42, 43, 2, 3, 35, 44, 45, 90, 91] (by decide +kernel) (by decide +kernel)
set_option maxRecDepth 20000 in
theorem gX7_init_X2_init_n18 : GoodIn wsX7_init (wsX2_init) := ggX7_init_X2_init
set_option maxRecDepth 20000 in
theorem ggX7_init_X6_init : GoodIn wsX7_init wsX6_init := goodIn_r _ [47, 48, 2, 3, 35, 49, 50, 51, 38, 52, 53, 54, 55, 56, 92, 93, 94, 95, 96, 97, 98, 99] (by decide +kernel) (by decide +kernel)
set_option maxRecDepth 20000 in
theorem gX7_init_X6_init_n25 : GoodIn wsX7_init (wsX6_init) := ggX7_init_X6_init
set_option maxRecDepth 20000 in
theorem ggX7_init_X1_init : GoodIn wsX7_init wsX1_init := goodIn_r _ [58, 59, 2, 3, 35, 60, 61, 62, 63, 100, 101, 102, 103] (by decide +kernel) (by decide +kernel)
set_option maxRecDepth 20000 in
theorem gX7_init_X1_init_n32 : GoodIn wsX7_init (wsX1_init) := ggX7_init_X1_init
set_option maxRecDepth 20000 in
theorem ggX7_init_X3_init : GoodIn wsX7_init wsX3_init := goodIn_r _ [65, 66, 2, 3, 35, 67, 68, 104, 105] (by decide +kernel) (by decide +kernel)
set_option maxRecDepth 20000 in
theorem gX7_init_X3_init_n39 : GoodIn wsX7_init (wsX3_init) := ggX7_init_X3_init
set_option maxRecDepth 20000 in
theorem ggX7_init_X5_init : GoodIn wsX7_init wsX5_init := goodIn_r _ [70, 71, 2, 3, 35, 72, 73, 106, 107] (by decide +kernel) (by decide +kernel)
set_option maxRecDepth 20000 in
theorem gX7_init_X5_init_n46 : GoodIn wsX7_init (wsX5_init) := ggX7_init_X5_init
set_option maxRecDepth 20000 in
theorem ggX7_init_X4_init : GoodIn wsX7_init wsX4_init := goodIn_r _ [75, 76, 2, 3, 77, 78, 108] (by decide +kernel) (by decide +kernel)
set_option maxRecDepth 20000 in
theorem gX7_init_X4_init_n53 : GoodIn wsX7_init (wsX4_init) := ggX7_init_X4_init
theorem dX7_init_0 : decode cX7_init 0 = .ok (.aload_n 0, 1) := by decide +kernel
theorem dX7_init_1 : decode cX7_init 1 = .ok (.invokespecial 1, 3) := by decide +kernel
theorem dX7_init_4 : decode cX7_init 4 = .ok (.aload_n 0, 1) := by decide +kernel
theorem dX7_init_5 : decode cX7_init 5 = .ok (.new 7, 3) := by decide +kernel
theorem dX7_init_8 : decode cX7_init 8 = .ok (.dup, 1) := by decide +kernel
theorem dX7_init_9 : decode cX7_init 9 = .ok (.invokespecial 9, 3) := by decide +kernel
theorem dX7_init_12 : decode cX7_init 12 = .ok (.putfield 10, 3) := by decide +kernel
theorem dX7_init_15 : decode cX7_init 15 = .ok (.aload_n 0, 1) := by decide +kernel
theorem dX7_init_16 : decode cX7_init 16 = .ok (.new 16, 3) := by decide +kernel
theorem dX7_init_19 : decode cX7_init 19 = .ok (.dup, 1) := by decide +kernel
theorem dX7_init_20 : decode cX7_init 20 = .ok (.invokespecial 18, 3) := by decide +kernel
theorem dX7_init_23 : decode cX7_init 23 = .ok (.putfield 19, 3) := by decide +kernel
theorem dX7_init_26 : decode cX7_init 26 = .ok (.aload_n 0, 1) := by decide +kernel
theorem dX7_init_27 : decode cX7_init 27 = .ok (.new 23, 3) := by decide +kernel
theorem dX7_init_30 : decode cX7_init 30 = .ok (.dup, 1) := by decide +kernel
theorem dX7_init_31 : decode cX7_init 31 = .ok (.invokespecial 25, 3) := by decide +kernel
theorem dX7_init_34 : decode cX7_init 34 = .ok (.putfield 26, 3) := by decide +kernel
theorem dX7_init_37 : decode cX7_init 37 = .ok (.aload_n 0, 1) := by decide +kernel
theorem dX7_init_38 : decode cX7_init 38 = .ok (.new 30, 3) := by decide +kernel
theorem dX7_init_41 : decode cX7_init 41 = .ok (.dup, 1) := by decide +kernel
theorem dX7_init_42 : decode cX7_init 42 = .ok (.invokespecial 32, 3) := by decide +kernel
theorem dX7_init_45 : decode cX7_init 45 = .ok (.putfield 33, 3) := by decide +kernel
theorem dX7_init_48 : decode cX7_init 48 = .ok (.aload_n 0, 1) := by decide +kernel
theorem dX7_init_49 : decode cX7_init 49 = .ok (.new 37, 3) := by decide +kernel
theorem dX7_init_52 : decode cX7_init 52 = .ok (.dup, 1) := by decide +kernel
theorem dX7_init_53 : decode cX7_init 53 = .ok (.invokespecial 39, 3) := by decide +kernel
theorem dX7_init_56 : decode cX7_init 56 = .ok (.putfield 40, 3) := by decide +kernel
theorem dX7_init_59 : decode cX7_init 59 = .ok (.aload_n 0, 1) := by decide +kernel
theorem dX7_init_60 : decode cX7_init 60 = .ok (.new 44, 3) := by decide +kernel
theorem dX7_init_63 : decode cX7_init 63 = .ok (.dup, 1) := by decide +kernel
theorem dX7_init_64 : decode cX7_init 64 = .ok (.invokespecial 46, 3) := by decide +kernel
theorem dX7_init_67 : decode cX7_init 67 = .ok (.putfield 47, 3) := by decide +kernel
theorem dX7_init_70 : decode cX7_init 70 = .ok (.aload_n 0, 1) := by decide +kernel
theorem dX7_init_71 : decode cX7_init 71 = .ok (.new 51, 3) := by decide +kernel
theorem dX7_init_74 : decode cX7_init 74 = .ok (.dup, 1) := by decide +kernel
theorem dX7_init_75 : decode cX7_init 75 = .ok (.invokespecial 53, 3) := by decide +kernel
theorem dX7_init_78 : decode cX7_init 78 = .ok (.putfield 54, 3) := by decide +kernel
theorem dX7_init_81 : decode cX7_init 81 = .ok (.return_, 1) := by decide +kernel
set_option maxRecDepth 20000 in
theorem ggX7_open_X0_canBeAsked : GoodIn wsX7_open wsX0_canBeAsked := goodIn_r _ [6, 7, 8, 9, 5, 10, 11, 12, 13, 14, 15, 16, 33, 34, 35, 36] (by decide +kernel) (by decide +kernel)
set_option maxRecDepth 20000 in
theorem gX7_open_X0_canBeAsked : GoodIn wsX7_open (wsV RX7 58 RX0 yX0_canBeAsked wsX0_canBeAsked) := goodIn_app (goodIn_of _ (by decide +kernel)) ggX7_open_X0_canBeAsked
set_option maxRecDepth 20000 in
theorem ggX7_open_X0_isFull : GoodIn wsX7_open wsX0_isFull := goodIn_r _ [20, 16, 33, 34, 35, 36] (by decide +kernel) (by decide +kernel)
set_option maxRecDepth 20000 in
theorem gX7_open_X0_isFull : GoodIn wsX7_open (wsV RX7 62 RX0 yX0_isFull wsX0_isFull) := goodIn_app (goodIn_of _ (by decide +kernel)) ggX7_open_X0_isFull
set_option maxRecDepth 20000 in
theorem ggX7_open_X0_add : GoodIn wsX7_open wsX0_add := goodIn_r _ [24, 16, 25, 11, 33, 34, 35, 36] (by decide +kernel) (by decide +kernel)
set_option maxRecDepth 20000 in
theorem gX7_open_X0_add : GoodIn wsX7_open (wsV RX7 66 RX0 yX0_add wsX0_add) := goodIn_app (goodIn_of _ (by decide +kernel)) ggX7_open_X0_add
theorem dX7_open_0 : decode cX7_open 0 = .ok (.aload_n 0, 1) := by decide +kernel
theorem dX7_open_1 : decode cX7_open 1 = .ok (.getfield 10, 3) := by decide +kernel
theorem dX7_open_4 : decode cX7_open 4 = .ok (.iload_n 1, 1) := by decide +kernel
theorem dX7_open_5 : decode cX7_open 5 = .ok (.invokevirtual 58, 3) := by decide +kernel
theorem dX7_open_8 : decode cX7_open 8 = .ok (.ifCond .eq 13, 3) := by decide +kernel
theorem dX7_open_11 : decode cX7_open 11 = .ok (.aload_n 0, 1) := by decide +kernel
theorem dX7_open_12 : decode cX7_open 12 = .ok (.getfield 10, 3) := by decide +kernel
theorem dX7_open_15 : decode cX7_open 15 = .ok (.invokevirtual 62, 3) := by decide +kernel
theorem dX7_open_18 : decode cX7_open 18 = .ok (.ifCond .eq 5, 3) := by decide +kernel
theorem dX7_open_21 : decode cX7_open 21 = .ok (.iconst (-1), 1) := by decide +kernel
theorem dX7_open_22 : decode cX7_open 22 = .ok (.ireturn, 1) := by decide +kernel
theorem dX7_open_23 : decode cX7_open 23 = .ok (.aload_n 0, 1) := by decide +kernel
theorem dX7_open_24 : decode cX7_open 24 = .ok (.getfield 10, 3) := by decide +kernel
theorem dX7_open_27 : decode cX7_open 27 = .ok (.iload_n 1, 1) := by decide +kernel
theorem dX7_open_28 : decode cX7_open 28 = .ok (.invokevirtual 66, 3) := by decide +kernel
theorem dX7_open_31 : decode cX7_open 31 = .ok (.ireturn, 1) := by decide +kernel
set_option maxRecDepth 20000 in
theorem ggX7_get_X0_canBeAsked : GoodIn wsX7_get wsX0_canBeAsked := goodIn_r _ [10, 11, 12, 13, 9, 14, 15, 16, 17, 18, 19, 20, 134, 135, 136, 137] (by decide +kernel) (by decide +kernel)
set_option maxRecDepth 20000 in
theorem gX7_get_X0_canBeAsked : GoodIn wsX7_get (wsV RX7 58 RX0 yX0_canBeAsked wsX0_canBeAsked) := goodIn_app (goodIn_of _ (by decide +kernel)) ggX7_get_X0_canBeAsked
set_option maxRecDepth 20000 in
theorem ggX7_get_X2_findOrAdd : GoodIn wsX7_get wsX2_findOrAdd := goodIn_r _ [25, 26, 27, 28, 29, 30, 24, 31, 138, 139] (by decide +kernel) (by decide +kernel)
set_option maxRecDepth 20000 in
theorem gX7_get_X2_findOrAdd : GoodIn wsX7_get (wsV RX7 72 RX2 yX2_findOrAdd wsX2_findOrAdd) := goodIn_app (goodIn_of _ (by decide +kernel)) ggX7_get_X2_findOrAdd
set_option maxRecDepth 20000 in
theorem ggX7_get_X1_isFull : GoodIn wsX7_get wsX1_isFull := goodIn_r _ [36, 37, 140, 141, 142, 143] (by decide +kernel) (by decide +kernel)
set_option maxRecDepth 20000 in
theorem gX7_get_X1_isFull : GoodIn wsX7_get (wsV RX7 75 RX1 yX1_isFull wsX1_isFull) := goodIn_app (goodIn_of _ (by decide +kernel)) ggX7_get_X1_isFull
set_option maxRecDepth 20000 in
theorem ggX7_get_X7_mustWait : GoodIn wsX7_get wsX7_mustWait := goodIn_r _ [42, 43, 44, 45, 46, 41, 47, 1, 4, 48, 49, 50, 9, 51, 20, 52, 53, 54, 55, 56, 57, 58, 59, 60, 35, 61, 37, 62, 63, 64, 65, 66, 67, 68, 69, 70, 71, 72, 73, 74, 75, 76, 77, 78, 79, 127, 128, 129, 130, 131, 132, 133, 134, 135, 136, 137, 140, 141, 142, 143, 144, 145] (by decide +kernel) (by decide +kernel)
set_option maxRecDepth 20000 in
theorem gX7_get_X7_mustWait : GoodIn wsX7_get (wsV RX7 76 RX7 yX7_mustWait wsX7_mustWait) := goodIn_app (goodIn_of _ (by decide +kernel)) ggX7_get_X7_mustWait
set_option maxRecDepth 20000 in
theorem ggX7_get_X1_add : GoodIn wsX7_get wsX1_add := goodIn_r _ [83, 68, 84, 85, 86, 87, 62, 37, 67, 88, 89, 90, 35, 91, 140, 141, 142, 143] (by decide +kernel) (by decide +kernel)
set_option maxRecDepth 20000 in
theorem gX7_get_X1_add : GoodIn wsX7_get (wsV RX7 82 RX1 yX1_add wsX1_add) := goodIn_app (goodIn_of _ (by decide +kernel)) ggX7_get_X1_add
set_option maxRecDepth 20000 in
theorem ggX7_get_X7_valueSeen : GoodIn wsX7_get wsX7_valueSeen := goodIn_r _ [95, 3, 96, 97, 98, 29, 30, 24, 31, 26, 27, 99, 100, 101, 41, 102, 1, 48, 49, 50, 9, 51, 20, 52, 53, 54, 55, 56, 57, 103, 104, 105, 106, 107, 108, 109, 110, 111, 112, 113, 114, 115, 116, 117, 118, 119, 120, 121, 122, 123, 124, 125, 126, 127, 128, 129, 130, 131, 132, 133, 138, 139, 134, 135, 136, 137, 146, 147, 148, 149, 150, 151, 152, 153] (by decide +kernel) (by decide +kernel)
set_option maxRecDepth 20000 in
theorem gX7_get_X7_valueSeen : GoodIn wsX7_get (wsV RX7 85 RX7 yX7_valueSeen wsX7_valueSeen) := goodIn_app (goodIn_of _ (by decide +kernel)) ggX7_get_X7_valueSeen
theorem dX7_get_0 : decode cX7_get 0 = .ok (.aload_n 0, 1) := by decide +kernel
theorem dX7_get_1 : decode cX7_get 1 = .ok (.getfield 10, 3) := by decide +kernel
theorem dX7_get_4 : decode cX7_get 4 = .ok (.iload_n 1, 1) := by decide +kernel
theorem dX7_get_5 : decode cX7_get 5 = .ok (.invokevirtual 58, 3) := by decide +kernel
theorem dX7_get_8 : decode cX7_get 8 = .ok (.ifCond .ne 7, 3) := by decide +kernel
theorem dX7_get_11 : decode cX7_get 11 = .ok (.ldc2_w 70, 3) := by decide +kernel
theorem dX7_get_14 : decode cX7_get 14 = .ok (.lreturn, 1) := by decide +kernel
theorem dX7_get_15 : decode cX7_get 15 = .ok (.iload_n 1, 1) := by decide +kernel
theorem dX7_get_16 : decode cX7_get 16 = .ok (.ifCond .eq 55, 3) := by decide +kernel
theorem dX7_get_19 : decode cX7_get 19 = .ok (.aload_n 0, 1) := by decide +kernel
theorem dX7_get_20 : decode cX7_get 20 = .ok (.getfield 19, 3) := by decide +kernel
theorem dX7_get_23 : decode cX7_get 23 = .ok (.iload_n 2, 1) := by decide +kernel
theorem dX7_get_24 : decode cX7_get 24 = .ok (.invokevirtual 72, 3) := by decide +kernel
theorem dX7_get_27 : decode cX7_get 27 = .ok (.istore_n 3, 1) := by decide +kernel
theorem dX7_get_28 : decode cX7_get 28 = .ok (.iload_n 3, 1) := by decide +kernel
theorem dX7_get_29 : decode cX7_get 29 = .ok (.iconst (-1), 1) := by decide +kernel
theorem dX7_get_30 : decode cX7_get 30 = .ok (.if_icmp .eq 13, 3) := by decide +kernel
theorem dX7_get_33 : decode cX7_get 33 = .ok (.aload_n 0, 1) := by decide +kernel
theorem dX7_get_34 : decode cX7_get 34 = .ok (.getfield 33, 3) := by decide +kernel
theorem dX7_get_37 : decode cX7_get 37 = .ok (.invokevirtual 75, 3) := by decide +kernel
theorem dX7_get_40 : decode cX7_get 40 = .ok (.ifCond .eq 7, 3) := by decide +kernel
theorem dX7_get_43 : decode cX7_get 43 = .ok (.ldc2_w 70, 3) := by decide +kernel
theorem dX7_get_46 : decode cX7_get 46 = .ok (.lreturn, 1) := by decide +kernel
theorem dX7_get_47 : decode cX7_get 47 = .ok (.aload_n 0, 1) := by decide +kernel
theorem dX7_get_48 : decode cX7_get 48 = .ok (.iload_n 1, 1) := by decide +kernel
theorem dX7_get_49 : decode cX7_get 49 = .ok (.iload_n 3, 1) := by decide +kernel
theorem dX7_get_50 : decode cX7_get 50 = .ok (.iconst 1, 1) := by decide +kernel
theorem dX7_get_51 : decode cX7_get 51 = .ok (.invokevirtual 76, 3) := by decide +kernel
theorem dX7_get_54 : decode cX7_get 54 = .ok (.ifCond .eq 7, 3) := by decide +kernel
theorem dX7_get_57 : decode cX7_get 57 = .ok (.ldc2_w 80, 3) := by decide +kernel
theorem dX7_get_60 : decode cX7_get 60 = .ok (.lreturn, 1) := by decide +kernel
theorem dX7_get_61 : decode cX7_get 61 = .ok (.aload_n 0, 1) := by decide +kernel
theorem dX7_get_62 : decode cX7_get 62 = .ok (.getfield 33, 3) := by decide +kernel
theorem dX7_get_65 : decode cX7_get 65 = .ok (.iload_n 1, 1) := by decide +kernel
theorem dX7_get_66 : decode cX7_get 66 = .ok (.iload_n 3, 1) := by decide +kernel
theorem dX7_get_67 : decode cX7_get 67 = .ok (.iconst 1, 1) := by decide +kernel
theorem dX7_get_68 : decode cX7_get 68 = .ok (.invokevirtual 82, 3) := by decide +kernel
theorem dX7_get_71 : decode cX7_get 71 = .ok (.aload_n 0, 1) := by decide +kernel
theorem dX7_get_72 : decode cX7_get 72 = .ok (.iload_n 1, 1) := by decide +kernel
theorem dX7_get_73 : decode cX7_get 73 = .ok (.iload_n 2, 1) := by decide +kernel
theorem dX7_get_74 : decode cX7_get 74 = .ok (.invokevirtual 85, 3) := by decide +kernel
theorem dX7_get_77 : decode cX7_get 77 = .ok (.lreturn, 1) := by decide +kernel
set_option maxRecDepth 20000 in
theorem ggX7_put_X7_change : GoodIn wsX7_put wsX7_change := goodIn_r _ [5, 6, 7, 8, 9, 10, 11, 12, 13, 14, 15, 16, 17, 18, 19, 20, 21, 22, 23, 24, 25, 26, 27, 28, 29, 30, 31, 32, 33, 34, 35, 36, 37, 38, 39, 40, 41, 42, 43, 44, 45, 46, 47, 48, 4, 49, 50, 51, 52, 53, 54, 55, 56, 57, 58, 59, 60, 61, 62, 63, 64, 65, 66, 67, 68, 69, 70, 71, 72, 73, 74, 75, 76, 77, 78, 79, 80, 81, 82, 83, 84, 85, 86, 87, 88, 89, 90, 91, 92, 93, 94, 95, 96, 97, 98, 99, 100, 101, 102, 103, 104, 105, 106, 107, 108, 109, 110, 111, 112, 113, 114, 115, 116, 117, 118, 119, 120, 121, 122, 123, 124, 125, 126, 127, 128, 129, 130, 131, 132, 133, 134, 135, 136, 137, 138, 139, 140, 141, 142, 143, 144, 145, 146, 147, 148, 149, 150, 151, 152, 153, 154, 155, 156, 157, 158, 159, 160, 161, 162, 163, 164, 165, 166, 167, 168, 169] (by decide +kernel) (by decide +kernel)
set_option maxRecDepth 20000 in
theorem gX7_put_X7_change : GoodIn wsX7_put (wsV RX7 89 RX7 yX7_change wsX7_change) := goodIn_app (goodIn_of _ (by decide +kernel)) ggX7_put_X7_change
theorem dX7_put_0 : decode cX7_put 0 = .ok (.aload_n 0, 1) := by decide +kernel
theorem dX7_put_1 : decode cX7_put 1 = .ok (.iload_n 1, 1) := by decide +kernel
theorem dX7_put_2 : decode cX7_put 2 = .ok (.iload_n 2, 1) := by decide +kernel
theorem dX7_put_3 : decode cX7_put 3 = .ok (.iload_n 3, 1) := by decide +kernel
theorem dX7_put_4 : decode cX7_put 4 = .ok (.iconst 0, 1) := by decide +kernel
theorem dX7_put_5 : decode cX7_put 5 = .ok (.invokevirtual 89, 3) := by decide +kernel
theorem dX7_put_8 : decode cX7_put 8 = .ok (.ireturn, 1) := by decide +kernel
set_option maxRecDepth 20000 in
theorem ggX7_take_X7_change : GoodIn wsX7_take wsX7_change := goodIn_r _ [5, 6, 7, 8, 9, 10, 11, 12, 13, 14, 15, 16, 17, 18, 19, 20, 21, 22, 23, 24, 25, 26, 27, 28, 29, 30, 31, 32, 33, 34, 35, 36, 37, 38, 39, 40, 41, 42, 43, 44, 45, 46, 47, 48, 4, 49, 50, 51, 52, 53, 54, 55, 56, 57, 58, 59, 60, 61, 62, 63, 64, 65, 66, 67, 68, 69, 70, 71, 72, 73, 74, 75, 76, 77, 78, 79, 80, 81, 82, 83, 84, 85, 86, 87, 88, 89, 90, 91, 92, 93, 94, 95, 96, 97, 98, 99, 100, 101, 102, 103, 104, 105, 106, 107, 108, 109, 110, 111, 112, 113, 114, 115, 116, 117, 118, 119, 120, 121, 122, 123, 124, 125, 126, 127, 128, 129, 130, 131, 132, 133, 134, 135, 136, 137, 138, 139, 140, 141, 142, 143, 144, 145, 146, 147, 148, 149, 150, 151, 152, 153, 154, 155, 156, 157, 158, 159, 160, 161, 162, 163, 164, 165, 166, 167, 168, 169] (by decide +kernel) (by decide +kernel)
set_option maxRecDepth 20000 in
theorem gX7_take_X7_change : GoodIn wsX7_take (wsV RX7 89 RX7 yX7_change wsX7_change) := goodIn_app (goodIn_of _ (by decide +kernel)) ggX7_take_X7_change
theorem dX7_take_0 : decode cX7_take 0 = .ok (.aload_n 0, 1) := by decide +kernel
theorem dX7_take_1 : decode cX7_take 1 = .ok (.iload_n 1, 1) := by decide +kernel
theorem dX7_take_2 : decode cX7_take 2 = .ok (.iload_n 2, 1) := by decide +kernel
theorem dX7_take_3 : decode cX7_take 3 = .ok (.iconst 0, 1) := by decide +kernel
theorem dX7_take_4 : decode cX7_take 4 = .ok (.iconst 1, 1) := by decide +kernel
theorem dX7_take_5 : decode cX7_take 5 = .ok (.invokevirtual 89, 3) := by decide +kernel
theorem dX7_take_8 : decode cX7_take 8 = .ok (.ireturn, 1) := by decide +kernel
set_option maxRecDepth 20000 in
theorem ggX7_mark_X0_isActive : GoodIn wsX7_mark wsX0_isActive := goodIn_r _ [7, 8, 9, 10, 11, 6, 12, 13, 36, 37, 38, 39] (by decide +kernel) (by decide +kernel)
set_option maxRecDepth 20000 in
theorem gX7_mark_X0_isActive : GoodIn wsX7_mark (wsV RX7 93 RX0 yX0_isActive wsX0_isActive) := goodIn_app (goodIn_of _ (by decide +kernel)) ggX7_mark_X0_isActive
set_option maxRecDepth 20000 in
theorem ggX7_mark_X3_isFull : GoodIn wsX7_mark wsX3_isFull := goodIn_r _ [18, 19, 40, 41] (by decide +kernel) (by decide +kernel)
set_option maxRecDepth 20000 in
theorem gX7_mark_X3_isFull : GoodIn wsX7_mark (wsV RX7 96 RX3 yX3_isFull wsX3_isFull) := goodIn_app (goodIn_of _ (by decide +kernel)) ggX7_mark_X3_isFull
set_option maxRecDepth 20000 in
theorem ggX7_mark_X3_add : GoodIn wsX7_mark wsX3_add := goodIn_r _ [23, 24, 19, 25, 26, 27, 17, 28, 40, 41] (by decide +kernel) (by decide +kernel)
set_option maxRecDepth 20000 in
theorem gX7_mark_X3_add : GoodIn wsX7_mark (wsV RX7 97 RX3 yX3_add wsX3_add) := goodIn_app (goodIn_of _ (by decide +kernel)) ggX7_mark_X3_add
theorem dX7_mark_0 : decode cX7_mark 0 = .ok (.aload_n 0, 1) := by decide +kernel
theorem dX7_mark_1 : decode cX7_mark 1 = .ok (.getfield 10, 3) := by decide +kernel
theorem dX7_mark_4 : decode cX7_mark 4 = .ok (.iload_n 1, 1) := by decide +kernel
theorem dX7_mark_5 : decode cX7_mark 5 = .ok (.invokevirtual 93, 3) := by decide +kernel
theorem dX7_mark_8 : decode cX7_mark 8 = .ok (.ifCond .eq 13, 3) := by decide +kernel
theorem dX7_mark_11 : decode cX7_mark 11 = .ok (.aload_n 0, 1) := by decide +kernel
theorem dX7_mark_12 : decode cX7_mark 12 = .ok (.getfield 40, 3) := by decide +kernel
theorem dX7_mark_15 : decode cX7_mark 15 = .ok (.invokevirtual 96, 3) := by decide +kernel
theorem dX7_mark_18 : decode cX7_mark 18 = .ok (.ifCond .eq 5, 3) := by decide +kernel
theorem dX7_mark_21 : decode cX7_mark 21 = .ok (.iconst (-1), 1) := by decide +kernel
theorem dX7_mark_22 : decode cX7_mark 22 = .ok (.ireturn, 1) := by decide +kernel
theorem dX7_mark_23 : decode cX7_mark 23 = .ok (.aload_n 0, 1) := by decide +kernel
theorem dX7_mark_24 : decode cX7_mark 24 = .ok (.getfield 40, 3) := by decide +kernel
theorem dX7_mark_27 : decode cX7_mark 27 = .ok (.iload_n 1, 1) := by decide +kernel
theorem dX7_mark_28 : decode cX7_mark 28 = .ok (.invokevirtual 97, 3) := by decide +kernel
theorem dX7_mark_31 : decode cX7_mark 31 = .ok (.ireturn, 1) := by decide +kernel
set_option maxRecDepth 20000 in
theorem ggX7_back_X7_canEndOrGoBack : GoodIn wsX7_back wsX7_canEndOrGoBack := goodIn_r _ [7, 8, 9, 10, 11, 12, 13, 14, 15, 16, 17, 18, 19, 20, 21, 22, 23, 24, 69, 70, 71, 72, 73, 74, 75, 76, 77, 78, 79] (by decide +kernel) (by decide +kernel)
set_option maxRecDepth 20000 in
theorem gX7_back_X7_canEndOrGoBack : GoodIn wsX7_back (wsV RX7 98 RX7 yX7_canEndOrGoBack wsX7_canEndOrGoBack) := goodIn_app (goodIn_of _ (by decide +kernel)) ggX7_back_X7_canEndOrGoBack
set_option maxRecDepth 20000 in
theorem ggX7_back_X3_find : GoodIn wsX7_back wsX3_find := goodIn_r _ [29, 30, 31, 80, 81] (by decide +kernel) (by decide +kernel)
set_option maxRecDepth 20000 in
theorem gX7_back_X3_find : GoodIn wsX7_back (wsV RX7 101 RX3 yX3_find wsX3_find) := goodIn_app (goodIn_of _ (by decide +kernel)) ggX7_back_X3_find
set_option maxRecDepth 20000 in
theorem ggX7_back_X3_dropAfter : GoodIn wsX7_back wsX3_dropAfter := goodIn_r _ [35, 30, 31, 80, 81] (by decide +kernel) (by decide +kernel)
set_option maxRecDepth 20000 in
theorem gX7_back_X3_dropAfter : GoodIn wsX7_back (wsV RX7 105 RX3 yX3_dropAfter wsX3_dropAfter) := goodIn_app (goodIn_of _ (by decide +kernel)) ggX7_back_X3_dropAfter
set_option maxRecDepth 20000 in
theorem ggX7_back_X3_timeOf : GoodIn wsX7_back wsX3_timeOf := goodIn_r _ [39] (by decide +kernel) (by decide +kernel)
set_option maxRecDepth 20000 in
theorem gX7_back_X3_timeOf : GoodIn wsX7_back (wsV RX7 109 RX3 yX3_timeOf wsX3_timeOf) := goodIn_app (goodIn_of _ (by decide +kernel)) ggX7_back_X3_timeOf
set_option maxRecDepth 20000 in
theorem ggX7_back_X6_undo : GoodIn wsX7_back wsX6_undo := goodIn_r _ [44, 45, 46, 47, 48, 49, 43, 50, 51, 52, 53, 54, 55, 56, 57, 58, 59, 60, 61, 62, 63, 64, 65, 66, 67, 68, 82, 83, 84, 85, 86, 87, 88, 89] (by decide +kernel) (by decide +kernel)
set_option maxRecDepth 20000 in
theorem gX7_back_X6_undo : GoodIn wsX7_back (wsV RX7 112 RX6 yX6_undo wsX6_undo) := goodIn_app (goodIn_of _ (by decide +kernel)) ggX7_back_X6_undo
theorem dX7_back_0 : decode cX7_back 0 = .ok (.aload_n 0, 1) := by decide +kernel
theorem dX7_back_1 : decode cX7_back 1 = .ok (.iload_n 1, 1) := by decide +kernel
theorem dX7_back_2 : decode cX7_back 2 = .ok (.invokevirtual 98, 3) := by decide +kernel
theorem dX7_back_5 : decode cX7_back 5 = .ok (.ifCond .ne 5, 3) := by decide +kernel
theorem dX7_back_8 : decode cX7_back 8 = .ok (.iconst (-1), 1) := by decide +kernel
theorem dX7_back_9 : decode cX7_back 9 = .ok (.ireturn, 1) := by decide +kernel
theorem dX7_back_10 : decode cX7_back 10 = .ok (.aload_n 0, 1) := by decide +kernel
theorem dX7_back_11 : decode cX7_back 11 = .ok (.getfield 40, 3) := by decide +kernel
theorem dX7_back_14 : decode cX7_back 14 = .ok (.iload_n 1, 1) := by decide +kernel
theorem dX7_back_15 : decode cX7_back 15 = .ok (.iload_n 2, 1) := by decide +kernel
theorem dX7_back_16 : decode cX7_back 16 = .ok (.invokevirtual 101, 3) := by decide +kernel
theorem dX7_back_19 : decode cX7_back 19 = .ok (.istore_n 3, 1) := by decide +kernel
theorem dX7_back_20 : decode cX7_back 20 = .ok (.iload_n 3, 1) := by decide +kernel
theorem dX7_back_21 : decode cX7_back 21 = .ok (.iconst (-1), 1) := by decide +kernel
theorem dX7_back_22 : decode cX7_back 22 = .ok (.if_icmp .ne 5, 3) := by decide +kernel
theorem dX7_back_25 : decode cX7_back 25 = .ok (.iconst (-1), 1) := by decide +kernel
theorem dX7_back_26 : decode cX7_back 26 = .ok (.ireturn, 1) := by decide +kernel
theorem dX7_back_27 : decode cX7_back 27 = .ok (.aload_n 0, 1) := by decide +kernel
theorem dX7_back_28 : decode cX7_back 28 = .ok (.getfield 40, 3) := by decide +kernel
theorem dX7_back_31 : decode cX7_back 31 = .ok (.iload_n 1, 1) := by decide +kernel
theorem dX7_back_32 : decode cX7_back 32 = .ok (.iload_n 3, 1) := by decide +kernel
theorem dX7_back_33 : decode cX7_back 33 = .ok (.invokevirtual 105, 3) := by decide +kernel
theorem dX7_back_36 : decode cX7_back 36 = .ok (.aload_n 0, 1) := by decide +kernel
theorem dX7_back_37 : decode cX7_back 37 = .ok (.getfield 26, 3) := by decide +kernel
theorem dX7_back_40 : decode cX7_back 40 = .ok (.iload_n 1, 1) := by decide +kernel
theorem dX7_back_41 : decode cX7_back 41 = .ok (.aload_n 0, 1) := by decide +kernel
theorem dX7_back_42 : decode cX7_back 42 = .ok (.getfield 40, 3) := by decide +kernel
theorem dX7_back_45 : decode cX7_back 45 = .ok (.iload_n 3, 1) := by decide +kernel
theorem dX7_back_46 : decode cX7_back 46 = .ok (.invokevirtual 109, 3) := by decide +kernel
theorem dX7_back_49 : decode cX7_back 49 = .ok (.invokevirtual 112, 3) := by decide +kernel
theorem dX7_back_52 : decode cX7_back 52 = .ok (.ireturn, 1) := by decide +kernel
set_option maxRecDepth 20000 in
theorem ggX7_commit_X7_canEndOrGoBack : GoodIn wsX7_commit wsX7_canEndOrGoBack := goodIn_r _ [9, 2, 10, 11, 12, 13, 14, 15, 16, 17, 18, 19, 20, 21, 22, 23, 24, 25, 111, 112, 113, 114, 115, 116, 117, 118, 119, 120, 121] (by decide +kernel) (by decide +kernel)
set_option maxRecDepth 20000 in
theorem gX7_commit_X7_canEndOrGoBack : GoodIn wsX7_commit (wsV RX7 98 RX7 yX7_canEndOrGoBack wsX7_canEndOrGoBack) := goodIn_app (goodIn_of _ (by decide +kernel)) ggX7_commit_X7_canEndOrGoBack
set_option maxRecDepth 20000 in
theorem ggX7_commit_X6_keysOf : GoodIn wsX7_commit wsX6_keysOf := goodIn_r _ [30, 31, 32, 33, 34, 29, 35, 36, 37, 38, 39, 40, 41, 42, 122, 123, 124, 125, 126, 127, 128, 129] (by decide +kernel) (by decide +kernel)
set_option maxRecDepth 20000 in
theorem gX7_commit_X6_keysOf : GoodIn wsX7_commit (wsV RX7 115 RX6 yX6_keysOf wsX6_keysOf) := goodIn_app (goodIn_of _ (by decide +kernel)) ggX7_commit_X6_keysOf
set_option maxRecDepth 20000 in
theorem ggX7_commit_X0_parentOf : GoodIn wsX7_commit wsX0_parentOf := goodIn_r _ [46, 25, 118, 119, 120, 121] (by decide +kernel) (by decide +kernel)
set_option maxRecDepth 20000 in
theorem gX7_commit_X0_parentOf : GoodIn wsX7_commit (wsV RX7 118 RX0 yX0_parentOf wsX0_parentOf) := goodIn_app (goodIn_of _ (by decide +kernel)) ggX7_commit_X0_parentOf
set_option maxRecDepth 20000 in
theorem ggX7_commit_X3_now : GoodIn wsX7_commit wsX3_now := goodIn_r _ [51, 52, 130, 131] (by decide +kernel) (by decide +kernel)
set_option maxRecDepth 20000 in
theorem gX7_commit_X3_now : GoodIn wsX7_commit (wsV RX7 121 RX3 yX3_now wsX3_now) := goodIn_app (goodIn_of _ (by decide +kernel)) ggX7_commit_X3_now
set_option maxRecDepth 20000 in
theorem ggX7_commit_X6_handOver : GoodIn wsX7_commit wsX6_handOver := goodIn_r _ [56, 36, 37, 57, 122, 123, 124, 125, 126, 127, 128, 129] (by decide +kernel) (by decide +kernel)
set_option maxRecDepth 20000 in
theorem gX7_commit_X6_handOver : GoodIn wsX7_commit (wsV RX7 125 RX6 yX6_handOver wsX6_handOver) := goodIn_app (goodIn_of _ (by decide +kernel)) ggX7_commit_X6_handOver
set_option maxRecDepth 20000 in
theorem ggX7_commit_X1_handOver : GoodIn wsX7_commit wsX1_handOver := goodIn_r _ [62, 63, 64, 65, 66, 67, 68, 69, 70, 71, 72, 73, 61, 74, 132, 133, 134, 135] (by decide +kernel) (by decide +kernel)
set_option maxRecDepth 20000 in
theorem gX7_commit_X1_handOver : GoodIn wsX7_commit (wsV RX7 128 RX1 yX1_handOver wsX1_handOver) := goodIn_app (goodIn_of _ (by decide +kernel)) ggX7_commit_X1_handOver
set_option maxRecDepth 20000 in
theorem ggX7_commit_X7_end : GoodIn wsX7_commit wsX7_end := goodIn_r _ [78, 2, 1, 4, 3, 79, 80, 81, 82, 13, 83, 15, 84, 85, 86, 29, 87, 88, 89, 90, 91, 36, 37, 57, 92, 93, 94, 61, 95, 63, 64, 96, 97, 98, 50, 99, 100, 101, 102, 103, 52, 104, 105, 106, 107, 108, 109, 110, 111, 112, 113, 114, 115, 116, 117, 118, 119, 120, 121, 122, 123, 124, 125, 126, 127, 128, 129, 132, 133, 134, 135, 130, 131, 136, 137] (by decide +kernel) (by decide +kernel)
set_option maxRecDepth 20000 in
theorem gX7_commit_X7_end : GoodIn wsX7_commit (wsV RX7 130 RX7 yX7_end wsX7_end) := goodIn_app (goodIn_of _ (by decide +kernel)) ggX7_commit_X7_end
