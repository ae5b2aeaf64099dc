theorem dX7_commit_0 : decode cX7_commit 0 = .ok (.aload_n 0, 1) := by decide +kernel
theorem dX7_commit_1 : decode cX7_commit 1 = .ok (.iload_n 1, 1) := by decide +kernel
theorem dX7_commit_2 : decode cX7_commit 2 = .ok (.invokevirtual 98, 3) := by decide +kernel
theorem dX7_commit_5 : decode cX7_commit 5 = .ok (.ifCond .ne 5, 3) := by decide +kernel
theorem dX7_commit_8 : decode cX7_commit 8 = .ok (.iconst (-1), 1) := by decide +kernel
theorem dX7_commit_9 : decode cX7_commit 9 = .ok (.ireturn, 1) := by decide +kernel
theorem dX7_commit_10 : decode cX7_commit 10 = .ok (.aload_n 0, 1) := by decide +kernel
theorem dX7_commit_11 : decode cX7_commit 11 = .ok (.getfield 26, 3) := by decide +kernel
theorem dX7_commit_14 : decode cX7_commit 14 = .ok (.iload_n 1, 1) := by decide +kernel
theorem dX7_commit_15 : decode cX7_commit 15 = .ok (.invokevirtual 115, 3) := by decide +kernel
theorem dX7_commit_18 : decode cX7_commit 18 = .ok (.istore_n 2, 1) := by decide +kernel
theorem dX7_commit_19 : decode cX7_commit 19 = .ok (.aload_n 0, 1) := by decide +kernel
theorem dX7_commit_20 : decode cX7_commit 20 = .ok (.getfield 10, 3) := by decide +kernel
theorem dX7_commit_23 : decode cX7_commit 23 = .ok (.iload_n 1, 1) := by decide +kernel
theorem dX7_commit_24 : decode cX7_commit 24 = .ok (.invokevirtual 118, 3) := by decide +kernel
theorem dX7_commit_27 : decode cX7_commit 27 = .ok (.istore_n 3, 1) := by decide +kernel
theorem dX7_commit_28 : decode cX7_commit 28 = .ok (.aload_n 0, 1) := by decide +kernel
theorem dX7_commit_29 : decode cX7_commit 29 = .ok (.getfield 26, 3) := by decide +kernel
theorem dX7_commit_32 : decode cX7_commit 32 = .ok (.iload_n 1, 1) := by decide +kernel
theorem dX7_commit_33 : decode cX7_commit 33 = .ok (.iload_n 3, 1) := by decide +kernel
theorem dX7_commit_34 : decode cX7_commit 34 = .ok (.aload_n 0, 1) := by decide +kernel
theorem dX7_commit_35 : decode cX7_commit 35 = .ok (.getfield 40, 3) := by decide +kernel
theorem dX7_commit_38 : decode cX7_commit 38 = .ok (.invokevirtual 121, 3) := by decide +kernel
theorem dX7_commit_41 : decode cX7_commit 41 = .ok (.invokevirtual 125, 3) := by decide +kernel
theorem dX7_commit_44 : decode cX7_commit 44 = .ok (.iload_n 3, 1) := by decide +kernel
theorem dX7_commit_45 : decode cX7_commit 45 = .ok (.ifCond .eq 12, 3) := by decide +kernel
theorem dX7_commit_48 : decode cX7_commit 48 = .ok (.aload_n 0, 1) := by decide +kernel
theorem dX7_commit_49 : decode cX7_commit 49 = .ok (.getfield 33, 3) := by decide +kernel
theorem dX7_commit_52 : decode cX7_commit 52 = .ok (.iload_n 1, 1) := by decide +kernel
theorem dX7_commit_53 : decode cX7_commit 53 = .ok (.iload_n 3, 1) := by decide +kernel
theorem dX7_commit_54 : decode cX7_commit 54 = .ok (.invokevirtual 128, 3) := by decide +kernel
theorem dX7_commit_57 : decode cX7_commit 57 = .ok (.aload_n 0, 1) := by decide +kernel
theorem dX7_commit_58 : decode cX7_commit 58 = .ok (.iload_n 1, 1) := by decide +kernel
theorem dX7_commit_59 : decode cX7_commit 59 = .ok (.iconst 1, 1) := by decide +kernel
theorem dX7_commit_60 : decode cX7_commit 60 = .ok (.invokevirtual 130, 3) := by decide +kernel
theorem dX7_commit_63 : decode cX7_commit 63 = .ok (.iload_n 2, 1) := by decide +kernel
theorem dX7_commit_64 : decode cX7_commit 64 = .ok (.ireturn, 1) := by decide +kernel
set_option maxRecDepth 20000 in
theorem ggX7_abort_X0_isActive : GoodIn wsX7_abort wsX0_isActive := goodIn_r _ [6, 7, 8, 9, 10, 5, 11, 12, 83, 84, 85, 86] (by decide +kernel) (by decide +kernel)
set_option maxRecDepth 20000 in
theorem gX7_abort_X0_isActive : GoodIn wsX7_abort (wsV RX7 93 RX0 yX0_isActive wsX0_isActive) := goodIn_app (goodIn_of _ (by decide +kernel)) ggX7_abort_X0_isActive
set_option maxRecDepth 20000 in
theorem ggX7_abort_X7_end : GoodIn wsX7_abort wsX7_end := goodIn_r _ [17, 1, 18, 19, 20, 21, 22, 23, 24, 5, 25, 7, 26, 27, 28, 29, 30, 31, 32, 33, 34, 35, 36, 37, 38, 39, 40, 41, 42, 43, 44, 45, 46, 47, 48, 49, 50, 51, 52, 53, 54, 55, 56, 57, 58, 59, 60, 61, 76, 77, 78, 79, 80, 81, 82, 83, 84, 85, 86, 87, 88, 89, 90, 91, 92, 93, 94, 95, 96, 97, 98, 99, 100, 101, 102] (by decide +kernel) (by decide +kernel)
set_option maxRecDepth 20000 in
theorem gX7_abort_X7_end : GoodIn wsX7_abort (wsV RX7 130 RX7 yX7_end wsX7_end) := goodIn_app (goodIn_of _ (by decide +kernel)) ggX7_abort_X7_end
set_option maxRecDepth 20000 in
theorem ggX7_abort_X0_opened : GoodIn wsX7_abort wsX0_opened := goodIn_r _ [65, 12, 83, 84, 85, 86] (by decide +kernel) (by decide +kernel)
set_option maxRecDepth 20000 in
theorem gX7_abort_X0_opened : GoodIn wsX7_abort (wsV RX7 133 RX0 yX0_opened wsX0_opened) := goodIn_app (goodIn_of _ (by decide +kernel)) ggX7_abort_X0_opened
set_option maxRecDepth 20000 in
theorem ggX7_abort_X0_isLeftBehind : GoodIn wsX7_abort wsX0_isLeftBehind := goodIn_r _ [69, 70, 71, 3, 4, 5, 6, 7, 8, 9, 10, 11, 12, 72, 73, 74, 75, 83, 84, 85, 86] (by decide +kernel) (by decide +kernel)
set_option maxRecDepth 20000 in
theorem gX7_abort_X0_isLeftBehind : GoodIn wsX7_abort (wsV RX7 136 RX0 yX0_isLeftBehind wsX0_isLeftBehind) := goodIn_app (goodIn_of _ (by decide +kernel)) ggX7_abort_X0_isLeftBehind
theorem dX7_abort_0 : decode cX7_abort 0 = .ok (.aload_n 0, 1) := by decide +kernel
theorem dX7_abort_1 : decode cX7_abort 1 = .ok (.getfield 10, 3) := by decide +kernel
theorem dX7_abort_4 : decode cX7_abort 4 = .ok (.iload_n 1, 1) := by decide +kernel
theorem dX7_abort_5 : decode cX7_abort 5 = .ok (.invokevirtual 93, 3) := by decide +kernel
theorem dX7_abort_8 : decode cX7_abort 8 = .ok (.ifCond .ne 5, 3) := by decide +kernel
theorem dX7_abort_11 : decode cX7_abort 11 = .ok (.iconst (-1), 1) := by decide +kernel
theorem dX7_abort_12 : decode cX7_abort 12 = .ok (.ireturn, 1) := by decide +kernel
theorem dX7_abort_13 : decode cX7_abort 13 = .ok (.aload_n 0, 1) := by decide +kernel
theorem dX7_abort_14 : decode cX7_abort 14 = .ok (.iload_n 1, 1) := by decide +kernel
theorem dX7_abort_15 : decode cX7_abort 15 = .ok (.iconst 2, 1) := by decide +kernel
theorem dX7_abort_16 : decode cX7_abort 16 = .ok (.invokevirtual 130, 3) := by decide +kernel
theorem dX7_abort_19 : decode cX7_abort 19 = .ok (.iconst 1, 1) := by decide +kernel
theorem dX7_abort_20 : decode cX7_abort 20 = .ok (.istore_n 2, 1) := by decide +kernel
theorem dX7_abort_21 : decode cX7_abort 21 = .ok (.iload_n 1, 1) := by decide +kernel
theorem dX7_abort_22 : decode cX7_abort 22 = .ok (.iconst 1, 1) := by decide +kernel
theorem dX7_abort_23 : decode cX7_abort 23 = .ok (.iadd, 1) := by decide +kernel
theorem dX7_abort_24 : decode cX7_abort 24 = .ok (.istore_n 3, 1) := by decide +kernel
theorem dX7_abort_25 : decode cX7_abort 25 = .ok (.iload_n 3, 1) := by decide +kernel
theorem dX7_abort_26 : decode cX7_abort 26 = .ok (.aload_n 0, 1) := by decide +kernel
theorem dX7_abort_27 : decode cX7_abort 27 = .ok (.getfield 10, 3) := by decide +kernel
theorem dX7_abort_30 : decode cX7_abort 30 = .ok (.invokevirtual 133, 3) := by decide +kernel
theorem dX7_abort_33 : decode cX7_abort 33 = .ok (.if_icmp .gt 29, 3) := by decide +kernel
theorem dX7_abort_36 : decode cX7_abort 36 = .ok (.aload_n 0, 1) := by decide +kernel
theorem dX7_abort_37 : decode cX7_abort 37 = .ok (.getfield 10, 3) := by decide +kernel
theorem dX7_abort_40 : decode cX7_abort 40 = .ok (.iload_n 3, 1) := by decide +kernel
theorem dX7_abort_41 : decode cX7_abort 41 = .ok (.invokevirtual 136, 3) := by decide +kernel
theorem dX7_abort_44 : decode cX7_abort 44 = .ok (.ifCond .eq 12, 3) := by decide +kernel
theorem dX7_abort_47 : decode cX7_abort 47 = .ok (.aload_n 0, 1) := by decide +kernel
theorem dX7_abort_48 : decode cX7_abort 48 = .ok (.iload_n 3, 1) := by decide +kernel
theorem dX7_abort_49 : decode cX7_abort 49 = .ok (.iconst 2, 1) := by decide +kernel
theorem dX7_abort_50 : decode cX7_abort 50 = .ok (.invokevirtual 130, 3) := by decide +kernel
theorem dX7_abort_53 : decode cX7_abort 53 = .ok (.iinc 2 1, 3) := by decide +kernel
theorem dX7_abort_56 : decode cX7_abort 56 = .ok (.iinc 3 1, 3) := by decide +kernel
theorem dX7_abort_59 : decode cX7_abort 59 = .ok (.goto (-34), 3) := by decide +kernel
theorem dX7_abort_62 : decode cX7_abort 62 = .ok (.iload_n 2, 1) := by decide +kernel
theorem dX7_abort_63 : decode cX7_abort 63 = .ok (.ireturn, 1) := by decide +kernel
set_option maxRecDepth 20000 in
theorem ggX7_state_X0_exists : GoodIn wsX7_state wsX0_exists := goodIn_r _ [6, 7, 20, 21, 22, 23] (by decide +kernel) (by decide +kernel)
set_option maxRecDepth 20000 in
theorem gX7_state_X0_exists : GoodIn wsX7_state (wsV RX7 139 RX0 yX0_exists wsX0_exists) := goodIn_app (goodIn_of _ (by decide +kernel)) ggX7_state_X0_exists
set_option maxRecDepth 20000 in
theorem ggX7_state_X0_stateOf : GoodIn wsX7_state wsX0_stateOf := goodIn_r _ [11, 12, 20, 21, 22, 23] (by decide +kernel) (by decide +kernel)
set_option maxRecDepth 20000 in
theorem gX7_state_X0_stateOf : GoodIn wsX7_state (wsV RX7 142 RX0 yX0_stateOf wsX0_stateOf) := goodIn_app (goodIn_of _ (by decide +kernel)) ggX7_state_X0_stateOf
theorem dX7_state_0 : decode cX7_state 0 = .ok (.aload_n 0, 1) := by decide +kernel
theorem dX7_state_1 : decode cX7_state 1 = .ok (.getfield 10, 3) := by decide +kernel
theorem dX7_state_4 : decode cX7_state 4 = .ok (.iload_n 1, 1) := by decide +kernel
theorem dX7_state_5 : decode cX7_state 5 = .ok (.invokevirtual 139, 3) := by decide +kernel
theorem dX7_state_8 : decode cX7_state 8 = .ok (.ifCond .eq 14, 3) := by decide +kernel
theorem dX7_state_11 : decode cX7_state 11 = .ok (.aload_n 0, 1) := by decide +kernel
theorem dX7_state_12 : decode cX7_state 12 = .ok (.getfield 10, 3) := by decide +kernel
theorem dX7_state_15 : decode cX7_state 15 = .ok (.iload_n 1, 1) := by decide +kernel
theorem dX7_state_16 : decode cX7_state 16 = .ok (.invokevirtual 142, 3) := by decide +kernel
theorem dX7_state_19 : decode cX7_state 19 = .ok (.goto 4, 3) := by decide +kernel
theorem dX7_state_22 : decode cX7_state 22 = .ok (.iconst (-1), 1) := by decide +kernel
theorem dX7_state_23 : decode cX7_state 23 = .ok (.ireturn, 1) := by decide +kernel
set_option maxRecDepth 20000 in
theorem ggX7_told_X0_exists : GoodIn wsX7_told wsX0_exists := goodIn_r _ [9, 10, 60, 61, 62, 63] (by decide +kernel) (by decide +kernel)
set_option maxRecDepth 20000 in
theorem gX7_told_X0_exists : GoodIn wsX7_told (wsV RX7 139 RX0 yX0_exists wsX0_exists) := goodIn_app (goodIn_of _ (by decide +kernel)) ggX7_told_X0_exists
set_option maxRecDepth 20000 in
theorem ggX7_told_X0_parentOf : GoodIn wsX7_told wsX0_parentOf := goodIn_r _ [14, 15, 60, 61, 62, 63] (by decide +kernel) (by decide +kernel)
set_option maxRecDepth 20000 in
theorem gX7_told_X0_parentOf : GoodIn wsX7_told (wsV RX7 118 RX0 yX0_parentOf wsX0_parentOf) := goodIn_app (goodIn_of _ (by decide +kernel)) ggX7_told_X0_parentOf
set_option maxRecDepth 20000 in
theorem ggX7_told_X0_activeChildrenOf : GoodIn wsX7_told wsX0_activeChildrenOf := goodIn_r _ [19, 10, 15, 20, 60, 61, 62, 63] (by decide +kernel) (by decide +kernel)
set_option maxRecDepth 20000 in
theorem gX7_told_X0_activeChildrenOf : GoodIn wsX7_told (wsV RX7 145 RX0 yX0_activeChildrenOf wsX0_activeChildrenOf) := goodIn_app (goodIn_of _ (by decide +kernel)) ggX7_told_X0_activeChildrenOf
set_option maxRecDepth 20000 in
theorem ggX7_told_X3_countOf : GoodIn wsX7_told wsX3_countOf := goodIn_r _ [25, 26, 27, 64, 65] (by decide +kernel) (by decide +kernel)
set_option maxRecDepth 20000 in
theorem gX7_told_X3_countOf : GoodIn wsX7_told (wsV RX7 148 RX3 yX3_countOf wsX3_countOf) := goodIn_app (goodIn_of _ (by decide +kernel)) ggX7_told_X3_countOf
set_option maxRecDepth 20000 in
theorem ggX7_told_X6_keysOf : GoodIn wsX7_told wsX6_keysOf := goodIn_r _ [32, 33, 34, 35, 36, 31, 37, 38, 39, 40, 41, 42, 43, 44, 66, 67, 68, 69, 70, 71, 72, 73] (by decide +kernel) (by decide +kernel)
set_option maxRecDepth 20000 in
theorem gX7_told_X6_keysOf : GoodIn wsX7_told (wsV RX7 115 RX6 yX6_keysOf wsX6_keysOf) := goodIn_app (goodIn_of _ (by decide +kernel)) ggX7_told_X6_keysOf
set_option maxRecDepth 20000 in
theorem ggX7_told_X1_countOf : GoodIn wsX7_told wsX1_countOf := goodIn_r _ [49, 50, 51, 52, 74, 75, 76, 77] (by decide +kernel) (by decide +kernel)
set_option maxRecDepth 20000 in
theorem gX7_told_X1_countOf : GoodIn wsX7_told (wsV RX7 151 RX1 yX1_countOf wsX1_countOf) := goodIn_app (goodIn_of _ (by decide +kernel)) ggX7_told_X1_countOf
theorem dX7_told_0 : decode cX7_told 0 = .ok (.aload_n 0, 1) := by decide +kernel
theorem dX7_told_1 : decode cX7_told 1 = .ok (.getfield 10, 3) := by decide +kernel
theorem dX7_told_4 : decode cX7_told 4 = .ok (.iload_n 1, 1) := by decide +kernel
theorem dX7_told_5 : decode cX7_told 5 = .ok (.invokevirtual 139, 3) := by decide +kernel
theorem dX7_told_8 : decode cX7_told 8 = .ok (.ifCond .ne 5, 3) := by decide +kernel
theorem dX7_told_11 : decode cX7_told 11 = .ok (.iconst (-1), 1) := by decide +kernel
theorem dX7_told_12 : decode cX7_told 12 = .ok (.ireturn, 1) := by decide +kernel
theorem dX7_told_13 : decode cX7_told 13 = .ok (.iload_n 2, 1) := by decide +kernel
theorem dX7_told_14 : decode cX7_told 14 = .ok (.tableswitch 94 0 5 #[38, 47, 56, 65, 74, 84], 38) := by decide +kernel
theorem dX7_told_52 : decode cX7_told 52 = .ok (.aload_n 0, 1) := by decide +kernel
theorem dX7_told_53 : decode cX7_told 53 = .ok (.getfield 10, 3) := by decide +kernel
theorem dX7_told_56 : decode cX7_told 56 = .ok (.iload_n 1, 1) := by decide +kernel
theorem dX7_told_57 : decode cX7_told 57 = .ok (.invokevirtual 118, 3) := by decide +kernel
theorem dX7_told_60 : decode cX7_told 60 = .ok (.ireturn, 1) := by decide +kernel
theorem dX7_told_61 : decode cX7_told 61 = .ok (.aload_n 0, 1) := by decide +kernel
theorem dX7_told_62 : decode cX7_told 62 = .ok (.getfield 10, 3) := by decide +kernel
theorem dX7_told_65 : decode cX7_told 65 = .ok (.iload_n 1, 1) := by decide +kernel
theorem dX7_told_66 : decode cX7_told 66 = .ok (.invokevirtual 145, 3) := by decide +kernel
theorem dX7_told_69 : decode cX7_told 69 = .ok (.ireturn, 1) := by decide +kernel
theorem dX7_told_70 : decode cX7_told 70 = .ok (.aload_n 0, 1) := by decide +kernel
theorem dX7_told_71 : decode cX7_told 71 = .ok (.getfield 40, 3) := by decide +kernel
theorem dX7_told_74 : decode cX7_told 74 = .ok (.iload_n 1, 1) := by decide +kernel
theorem dX7_told_75 : decode cX7_told 75 = .ok (.invokevirtual 148, 3) := by decide +kernel
theorem dX7_told_78 : decode cX7_told 78 = .ok (.ireturn, 1) := by decide +kernel
theorem dX7_told_79 : decode cX7_told 79 = .ok (.aload_n 0, 1) := by decide +kernel
theorem dX7_told_80 : decode cX7_told 80 = .ok (.getfield 26, 3) := by decide +kernel
theorem dX7_told_83 : decode cX7_told 83 = .ok (.iload_n 1, 1) := by decide +kernel
theorem dX7_told_84 : decode cX7_told 84 = .ok (.invokevirtual 115, 3) := by decide +kernel
theorem dX7_told_87 : decode cX7_told 87 = .ok (.ireturn, 1) := by decide +kernel
theorem dX7_told_88 : decode cX7_told 88 = .ok (.aload_n 0, 1) := by decide +kernel
theorem dX7_told_89 : decode cX7_told 89 = .ok (.getfield 33, 3) := by decide +kernel
theorem dX7_told_92 : decode cX7_told 92 = .ok (.iload_n 1, 1) := by decide +kernel
theorem dX7_told_93 : decode cX7_told 93 = .ok (.iconst 1, 1) := by decide +kernel
theorem dX7_told_94 : decode cX7_told 94 = .ok (.invokevirtual 151, 3) := by decide +kernel
theorem dX7_told_97 : decode cX7_told 97 = .ok (.ireturn, 1) := by decide +kernel
theorem dX7_told_98 : decode cX7_told 98 = .ok (.aload_n 0, 1) := by decide +kernel
theorem dX7_told_99 : decode cX7_told 99 = .ok (.getfield 33, 3) := by decide +kernel
theorem dX7_told_102 : decode cX7_told 102 = .ok (.iload_n 1, 1) := by decide +kernel
theorem dX7_told_103 : decode cX7_told 103 = .ok (.iconst 2, 1) := by decide +kernel
theorem dX7_told_104 : decode cX7_told 104 = .ok (.invokevirtual 151, 3) := by decide +kernel
theorem dX7_told_107 : decode cX7_told 107 = .ok (.ireturn, 1) := by decide +kernel
theorem dX7_told_108 : decode cX7_told 108 = .ok (.iconst (-1), 1) := by decide +kernel
theorem dX7_told_109 : decode cX7_told 109 = .ok (.ireturn, 1) := by decide +kernel
set_option maxRecDepth 20000 in
theorem ggX7_held_X0_isActive : GoodIn wsX7_held wsX0_isActive := goodIn_r _ [8, 9, 10, 11, 12, 7, 13, 14, 42, 43, 44, 45] (by decide +kernel) (by decide +kernel)
set_option maxRecDepth 20000 in
theorem gX7_held_X0_isActive : GoodIn wsX7_held (wsV RX7 93 RX0 yX0_isActive wsX0_isActive) := goodIn_app (goodIn_of _ (by decide +kernel)) ggX7_held_X0_isActive
set_option maxRecDepth 20000 in
theorem ggX7_held_X2_find : GoodIn wsX7_held wsX2_find := goodIn_r _ [19, 20, 21, 46, 47] (by decide +kernel) (by decide +kernel)
set_option maxRecDepth 20000 in
theorem gX7_held_X2_find : GoodIn wsX7_held (wsV RX7 153 RX2 yX2_find wsX2_find) := goodIn_app (goodIn_of _ (by decide +kernel)) ggX7_held_X2_find
set_option maxRecDepth 20000 in
theorem ggX7_held_X1_kindOf : GoodIn wsX7_held wsX1_kindOf := goodIn_r _ [26, 27, 28, 29, 30, 25, 31, 32, 33, 34, 48, 49, 50, 51] (by decide +kernel) (by decide +kernel)
set_option maxRecDepth 20000 in
theorem gX7_held_X1_kindOf : GoodIn wsX7_held (wsV RX7 155 RX1 yX1_kindOf wsX1_kindOf) := goodIn_app (goodIn_of _ (by decide +kernel)) ggX7_held_X1_kindOf
theorem dX7_held_0 : decode cX7_held 0 = .ok (.aload_n 0, 1) := by decide +kernel
theorem dX7_held_1 : decode cX7_held 1 = .ok (.getfield 10, 3) := by decide +kernel
theorem dX7_held_4 : decode cX7_held 4 = .ok (.iload_n 1, 1) := by decide +kernel
theorem dX7_held_5 : decode cX7_held 5 = .ok (.invokevirtual 93, 3) := by decide +kernel
theorem dX7_held_8 : decode cX7_held 8 = .ok (.ifCond .ne 5, 3) := by decide +kernel
theorem dX7_held_11 : decode cX7_held 11 = .ok (.iconst (-1), 1) := by decide +kernel
theorem dX7_held_12 : decode cX7_held 12 = .ok (.ireturn, 1) := by decide +kernel
theorem dX7_held_13 : decode cX7_held 13 = .ok (.aload_n 0, 1) := by decide +kernel
theorem dX7_held_14 : decode cX7_held 14 = .ok (.getfield 33, 3) := by decide +kernel
theorem dX7_held_17 : decode cX7_held 17 = .ok (.iload_n 1, 1) := by decide +kernel
theorem dX7_held_18 : decode cX7_held 18 = .ok (.aload_n 0, 1) := by decide +kernel
theorem dX7_held_19 : decode cX7_held 19 = .ok (.getfield 19, 3) := by decide +kernel
theorem dX7_held_22 : decode cX7_held 22 = .ok (.iload_n 2, 1) := by decide +kernel
theorem dX7_held_23 : decode cX7_held 23 = .ok (.invokevirtual 153, 3) := by decide +kernel
theorem dX7_held_26 : decode cX7_held 26 = .ok (.invokevirtual 155, 3) := by decide +kernel
theorem dX7_held_29 : decode cX7_held 29 = .ok (.ireturn, 1) := by decide +kernel
set_option maxRecDepth 20000 in
theorem ggX7_blocker_X0_isActive : GoodIn wsX7_blocker wsX0_isActive := goodIn_r _ [7, 8, 9, 10, 11, 6, 12, 13, 57, 58, 59, 60] (by decide +kernel) (by decide +kernel)
set_option maxRecDepth 20000 in
theorem gX7_blocker_X0_isActive : GoodIn wsX7_blocker (wsV RX7 93 RX0 yX0_isActive wsX0_isActive) := goodIn_app (goodIn_of _ (by decide +kernel)) ggX7_blocker_X0_isActive
set_option maxRecDepth 20000 in
theorem ggX7_blocker_X2_find : GoodIn wsX7_blocker wsX2_find := goodIn_r _ [18, 19, 20, 61, 62] (by decide +kernel) (by decide +kernel)
set_option maxRecDepth 20000 in
theorem gX7_blocker_X2_find : GoodIn wsX7_blocker (wsV RX7 153 RX2 yX2_find wsX2_find) := goodIn_app (goodIn_of _ (by decide +kernel)) ggX7_blocker_X2_find
set_option maxRecDepth 20000 in
theorem ggX7_blocker_X7_leastInTheWay : GoodIn wsX7_blocker wsX7_leastInTheWay := goodIn_r _ [25, 1, 26, 27, 28, 29, 6, 30, 13, 31, 32, 33, 34, 35, 36, 37, 38, 39, 40, 41, 42, 43, 44, 45, 46, 47, 48, 49, 50, 51, 52, 53, 54, 55, 56, 57, 58, 59, 60, 63, 64, 65, 66] (by decide +kernel) (by decide +kernel)
set_option maxRecDepth 20000 in
theorem gX7_blocker_X7_leastInTheWay : GoodIn wsX7_blocker (wsV RX7 158 RX7 yX7_leastInTheWay wsX7_leastInTheWay) := goodIn_app (goodIn_of _ (by decide +kernel)) ggX7_blocker_X7_leastInTheWay
theorem dX7_blocker_0 : decode cX7_blocker 0 = .ok (.aload_n 0, 1) := by decide +kernel
theorem dX7_blocker_1 : decode cX7_blocker 1 = .ok (.getfield 10, 3) := by decide +kernel
theorem dX7_blocker_4 : decode cX7_blocker 4 = .ok (.iload_n 1, 1) := by decide +kernel
theorem dX7_blocker_5 : decode cX7_blocker 5 = .ok (.invokevirtual 93, 3) := by decide +kernel
theorem dX7_blocker_8 : decode cX7_blocker 8 = .ok (.ifCond .ne 5, 3) := by decide +kernel
theorem dX7_blocker_11 : decode cX7_blocker 11 = .ok (.iconst (-1), 1) := by decide +kernel
theorem dX7_blocker_12 : decode cX7_blocker 12 = .ok (.ireturn, 1) := by decide +kernel
theorem dX7_blocker_13 : decode cX7_blocker 13 = .ok (.aload_n 0, 1) := by decide +kernel
theorem dX7_blocker_14 : decode cX7_blocker 14 = .ok (.iload_n 1, 1) := by decide +kernel
theorem dX7_blocker_15 : decode cX7_blocker 15 = .ok (.aload_n 0, 1) := by decide +kernel
theorem dX7_blocker_16 : decode cX7_blocker 16 = .ok (.getfield 19, 3) := by decide +kernel
theorem dX7_blocker_19 : decode cX7_blocker 19 = .ok (.iload_n 2, 1) := by decide +kernel
theorem dX7_blocker_20 : decode cX7_blocker 20 = .ok (.invokevirtual 153, 3) := by decide +kernel
theorem dX7_blocker_23 : decode cX7_blocker 23 = .ok (.iload_n 3, 1) := by decide +kernel
theorem dX7_blocker_24 : decode cX7_blocker 24 = .ok (.ifCond .eq 7, 3) := by decide +kernel
theorem dX7_blocker_27 : decode cX7_blocker 27 = .ok (.iconst 2, 1) := by decide +kernel
theorem dX7_blocker_28 : decode cX7_blocker 28 = .ok (.goto 4, 3) := by decide +kernel
theorem dX7_blocker_31 : decode cX7_blocker 31 = .ok (.iconst 1, 1) := by decide +kernel
theorem dX7_blocker_32 : decode cX7_blocker 32 = .ok (.invokevirtual 158, 3) := by decide +kernel
theorem dX7_blocker_35 : decode cX7_blocker 35 = .ok (.ireturn, 1) := by decide +kernel
set_option maxRecDepth 20000 in
theorem ggX7_waits_X0_isActive : GoodIn wsX7_waits wsX0_isActive := goodIn_r _ [7, 8, 9, 10, 11, 6, 12, 13, 65, 66, 67, 68] (by decide +kernel) (by decide +kernel)
set_option maxRecDepth 20000 in
theorem gX7_waits_X0_isActive : GoodIn wsX7_waits (wsV RX7 93 RX0 yX0_isActive wsX0_isActive) := goodIn_app (goodIn_of _ (by decide +kernel)) ggX7_waits_X0_isActive
set_option maxRecDepth 20000 in
theorem ggX7_waits_X5_has : GoodIn wsX7_waits wsX5_has := goodIn_r _ [18, 19, 69, 70] (by decide +kernel) (by decide +kernel)
set_option maxRecDepth 20000 in
theorem gX7_waits_X5_has : GoodIn wsX7_waits (wsV RX7 162 RX5 yX5_has wsX5_has) := goodIn_app (goodIn_of _ (by decide +kernel)) ggX7_waits_X5_has
set_option maxRecDepth 20000 in
theorem ggX7_waits_X5_slotOf : GoodIn wsX7_waits wsX5_slotOf := goodIn_r _ [23, 24, 69, 70] (by decide +kernel) (by decide +kernel)
set_option maxRecDepth 20000 in
theorem gX7_waits_X5_slotOf : GoodIn wsX7_waits (wsV RX7 165 RX5 yX5_slotOf wsX5_slotOf) := goodIn_app (goodIn_of _ (by decide +kernel)) ggX7_waits_X5_slotOf
set_option maxRecDepth 20000 in
theorem ggX7_waits_X5_kindOf : GoodIn wsX7_waits wsX5_kindOf := goodIn_r _ [28, 19, 69, 70] (by decide +kernel) (by decide +kernel)
set_option maxRecDepth 20000 in
theorem gX7_waits_X5_kindOf : GoodIn wsX7_waits (wsV RX7 168 RX5 yX5_kindOf wsX5_kindOf) := goodIn_app (goodIn_of _ (by decide +kernel)) ggX7_waits_X5_kindOf
set_option maxRecDepth 20000 in
theorem ggX7_waits_X7_leastInTheWay : GoodIn wsX7_waits wsX7_leastInTheWay := goodIn_r _ [33, 1, 34, 35, 36, 37, 6, 38, 13, 39, 40, 41, 42, 43, 44, 45, 46, 47, 48, 49, 50, 51, 52, 53, 54, 55, 56, 57, 58, 59, 60, 61, 62, 63, 64, 65, 66, 67, 68, 71, 72, 73, 74] (by decide +kernel) (by decide +kernel)
set_option maxRecDepth 20000 in
theorem gX7_waits_X7_leastInTheWay : GoodIn wsX7_waits (wsV RX7 158 RX7 yX7_leastInTheWay wsX7_leastInTheWay) := goodIn_app (goodIn_of _ (by decide +kernel)) ggX7_waits_X7_leastInTheWay
theorem dX7_waits_0 : decode cX7_waits 0 = .ok (.aload_n 0, 1) := by decide +kernel
theorem dX7_waits_1 : decode cX7_waits 1 = .ok (.getfield 10, 3) := by decide +kernel
theorem dX7_waits_4 : decode cX7_waits 4 = .ok (.iload_n 1, 1) := by decide +kernel
theorem dX7_waits_5 : decode cX7_waits 5 = .ok (.invokevirtual 93, 3) := by decide +kernel
theorem dX7_waits_8 : decode cX7_waits 8 = .ok (.ifCond .ne 5, 3) := by decide +kernel
theorem dX7_waits_11 : decode cX7_waits 11 = .ok (.iconst (-1), 1) := by decide +kernel
theorem dX7_waits_12 : decode cX7_waits 12 = .ok (.ireturn, 1) := by decide +kernel
theorem dX7_waits_13 : decode cX7_waits 13 = .ok (.aload_n 0, 1) := by decide +kernel
theorem dX7_waits_14 : decode cX7_waits 14 = .ok (.getfield 47, 3) := by decide +kernel
theorem dX7_waits_17 : decode cX7_waits 17 = .ok (.iload_n 1, 1) := by decide +kernel
theorem dX7_waits_18 : decode cX7_waits 18 = .ok (.invokevirtual 162, 3) := by decide +kernel
theorem dX7_waits_21 : decode cX7_waits 21 = .ok (.ifCond .eq 27, 3) := by decide +kernel
theorem dX7_waits_24 : decode cX7_waits 24 = .ok (.aload_n 0, 1) := by decide +kernel
theorem dX7_waits_25 : decode cX7_waits 25 = .ok (.iload_n 1, 1) := by decide +kernel
theorem dX7_waits_26 : decode cX7_waits 26 = .ok (.aload_n 0, 1) := by decide +kernel
theorem dX7_waits_27 : decode cX7_waits 27 = .ok (.getfield 47, 3) := by decide +kernel
theorem dX7_waits_30 : decode cX7_waits 30 = .ok (.iload_n 1, 1) := by decide +kernel
theorem dX7_waits_31 : decode cX7_waits 31 = .ok (.invokevirtual 165, 3) := by decide +kernel
theorem dX7_waits_34 : decode cX7_waits 34 = .ok (.aload_n 0, 1) := by decide +kernel
theorem dX7_waits_35 : decode cX7_waits 35 = .ok (.getfield 47, 3) := by decide +kernel
theorem dX7_waits_38 : decode cX7_waits 38 = .ok (.iload_n 1, 1) := by decide +kernel
theorem dX7_waits_39 : decode cX7_waits 39 = .ok (.invokevirtual 168, 3) := by decide +kernel
theorem dX7_waits_42 : decode cX7_waits 42 = .ok (.invokevirtual 158, 3) := by decide +kernel
theorem dX7_waits_45 : decode cX7_waits 45 = .ok (.goto 4, 3) := by decide +kernel
theorem dX7_waits_48 : decode cX7_waits 48 = .ok (.iconst 0, 1) := by decide +kernel
theorem dX7_waits_49 : decode cX7_waits 49 = .ok (.ireturn, 1) := by decide +kernel
set_option maxRecDepth 20000 in
theorem ggX7_ring_X7_drawWaits : GoodIn wsX7_ring wsX7_drawWaits := goodIn_r _ [7, 1, 2, 8, 9, 10, 11, 12, 13, 14, 15, 16, 17, 18, 19, 20, 21, 22, 23, 24, 25, 26, 27, 28, 29, 30, 31, 32, 33, 34, 35, 36, 37, 38, 39, 40, 41, 42, 43, 44, 45, 46, 47, 48, 49, 50, 51, 52, 53, 54, 55, 56, 57, 58, 59, 60, 61, 62, 63, 64, 65, 66, 67, 81, 82, 83, 84, 85, 86, 87, 88, 89, 90, 91, 92, 93, 94, 95, 96, 97, 98] (by decide +kernel) (by decide +kernel)
set_option maxRecDepth 20000 in
theorem gX7_ring_X7_drawWaits : GoodIn wsX7_ring (wsV RX7 170 RX7 yX7_drawWaits wsX7_drawWaits) := goodIn_app (goodIn_of _ (by decide +kernel)) ggX7_ring_X7_drawWaits
set_option maxRecDepth 20000 in
theorem ggX7_ring_X0_opened : GoodIn wsX7_ring wsX0_opened := goodIn_r _ [24, 25, 89, 90, 91, 92] (by decide +kernel) (by decide +kernel)
set_option maxRecDepth 20000 in
theorem gX7_ring_X0_opened : GoodIn wsX7_ring (wsV RX7 133 RX0 yX0_opened wsX0_opened) := goodIn_app (goodIn_of _ (by decide +kernel)) ggX7_ring_X0_opened
set_option maxRecDepth 20000 in
theorem ggX7_ring_X4_close : GoodIn wsX7_ring wsX4_close := goodIn_r _ [71, 72, 73, 74, 13, 75, 15, 76, 77, 78, 79, 88] (by decide +kernel) (by decide +kernel)
set_option maxRecDepth 20000 in
theorem gX7_ring_X4_close : GoodIn wsX7_ring (wsV RX7 173 RX4 yX4_close wsX4_close) := goodIn_app (goodIn_of _ (by decide +kernel)) ggX7_ring_X4_close
set_option maxRecDepth 20000 in
theorem ggX7_ring_X4_leads : GoodIn wsX7_ring wsX4_leads := goodIn_r _ [75, 15, 88] (by decide +kernel) (by decide +kernel)
set_option maxRecDepth 20000 in
theorem gX7_ring_X4_leads : GoodIn wsX7_ring (wsV RX7 177 RX4 yX4_leads wsX4_leads) := goodIn_app (goodIn_of _ (by decide +kernel)) ggX7_ring_X4_leads
theorem dX7_ring_0 : decode cX7_ring 0 = .ok (.aload_n 0, 1) := by decide +kernel
theorem dX7_ring_1 : decode cX7_ring 1 = .ok (.invokevirtual 170, 3) := by decide +kernel
theorem dX7_ring_4 : decode cX7_ring 4 = .ok (.aload_n 0, 1) := by decide +kernel
theorem dX7_ring_5 : decode cX7_ring 5 = .ok (.getfield 54, 3) := by decide +kernel
theorem dX7_ring_8 : decode cX7_ring 8 = .ok (.aload_n 0, 1) := by decide +kernel
theorem dX7_ring_9 : decode cX7_ring 9 = .ok (.getfield 10, 3) := by decide +kernel
theorem dX7_ring_12 : decode cX7_ring 12 = .ok (.invokevirtual 133, 3) := by decide +kernel
theorem dX7_ring_15 : decode cX7_ring 15 = .ok (.invokevirtual 173, 3) := by decide +kernel
theorem dX7_ring_18 : decode cX7_ring 18 = .ok (.iconst 1, 1) := by decide +kernel
theorem dX7_ring_19 : decode cX7_ring 19 = .ok (.istore_n 1, 1) := by decide +kernel
theorem dX7_ring_20 : decode cX7_ring 20 = .ok (.iload_n 1, 1) := by decide +kernel
theorem dX7_ring_21 : decode cX7_ring 21 = .ok (.aload_n 0, 1) := by decide +kernel
theorem dX7_ring_22 : decode cX7_ring 22 = .ok (.getfield 10, 3) := by decide +kernel
theorem dX7_ring_25 : decode cX7_ring 25 = .ok (.invokevirtual 133, 3) := by decide +kernel
theorem dX7_ring_28 : decode cX7_ring 28 = .ok (.if_icmp .gt 23, 3) := by decide +kernel
theorem dX7_ring_31 : decode cX7_ring 31 = .ok (.aload_n 0, 1) := by decide +kernel
theorem dX7_ring_32 : decode cX7_ring 32 = .ok (.getfield 54, 3) := by decide +kernel
theorem dX7_ring_35 : decode cX7_ring 35 = .ok (.iload_n 1, 1) := by decide +kernel
theorem dX7_ring_36 : decode cX7_ring 36 = .ok (.iload_n 1, 1) := by decide +kernel
theorem dX7_ring_37 : decode cX7_ring 37 = .ok (.invokevirtual 177, 3) := by decide +kernel
theorem dX7_ring_40 : decode cX7_ring 40 = .ok (.ifCond .eq 5, 3) := by decide +kernel
theorem dX7_ring_43 : decode cX7_ring 43 = .ok (.iload_n 1, 1) := by decide +kernel
theorem dX7_ring_44 : decode cX7_ring 44 = .ok (.ireturn, 1) := by decide +kernel
theorem dX7_ring_45 : decode cX7_ring 45 = .ok (.iinc 1 1, 3) := by decide +kernel
theorem dX7_ring_48 : decode cX7_ring 48 = .ok (.goto (-28), 3) := by decide +kernel
theorem dX7_ring_51 : decode cX7_ring 51 = .ok (.iconst 0, 1) := by decide +kernel
theorem dX7_ring_52 : decode cX7_ring 52 = .ok (.ireturn, 1) := by decide +kernel
set_option maxRecDepth 20000 in
theorem ggX7_size_X0_canBeAsked : GoodIn wsX7_size wsX0_canBeAsked := goodIn_r _ [8, 9, 10, 11, 7, 12, 13, 14, 15, 16, 17, 18, 65, 66, 67, 68] (by decide +kernel) (by decide +kernel)
set_option maxRecDepth 20000 in
theorem gX7_size_X0_canBeAsked : GoodIn wsX7_size (wsV RX7 58 RX0 yX0_canBeAsked wsX0_canBeAsked) := goodIn_app (goodIn_of _ (by decide +kernel)) ggX7_size_X0_canBeAsked
set_option maxRecDepth 20000 in
theorem ggX7_size_X7_look : GoodIn wsX7_size wsX7_look := goodIn_r _ [23, 1, 3, 24, 25, 26, 7, 27, 18, 28, 29, 30, 31, 32, 33, 34, 35, 36, 37, 38, 39, 40, 41, 42, 43, 44, 45, 46, 58, 59, 60, 61, 62, 63, 64, 65, 66, 67, 68, 69, 70, 71, 72, 73, 74, 75, 76] (by decide +kernel) (by decide +kernel)
set_option maxRecDepth 20000 in
theorem gX7_size_X7_look : GoodIn wsX7_size (wsV RX7 181 RX7 yX7_look wsX7_look) := goodIn_app (goodIn_of _ (by decide +kernel)) ggX7_size_X7_look
set_option maxRecDepth 20000 in
theorem ggX7_size_X2_count : GoodIn wsX7_size wsX2_count := goodIn_r _ [51, 52, 77, 78] (by decide +kernel) (by decide +kernel)
set_option maxRecDepth 20000 in
theorem gX7_size_X2_count : GoodIn wsX7_size (wsV RX7 184 RX2 yX2_count wsX2_count) := goodIn_app (goodIn_of _ (by decide +kernel)) ggX7_size_X2_count
set_option maxRecDepth 20000 in
theorem ggX7_size_X6_hasFound : GoodIn wsX7_size wsX6_hasFound := goodIn_r _ [56, 39, 57, 69, 70, 71, 72, 73, 74, 75, 76] (by decide +kernel) (by decide +kernel)
set_option maxRecDepth 20000 in
theorem gX7_size_X6_hasFound : GoodIn wsX7_size (wsV RX7 187 RX6 yX6_hasFound wsX6_hasFound) := goodIn_app (goodIn_of _ (by decide +kernel)) ggX7_size_X6_hasFound
theorem dX7_size_0 : decode cX7_size 0 = .ok (.aload_n 0, 1) := by decide +kernel
theorem dX7_size_1 : decode cX7_size 1 = .ok (.getfield 10, 3) := by decide +kernel
theorem dX7_size_4 : decode cX7_size 4 = .ok (.iload_n 1, 1) := by decide +kernel
theorem dX7_size_5 : decode cX7_size 5 = .ok (.invokevirtual 58, 3) := by decide +kernel
theorem dX7_size_8 : decode cX7_size 8 = .ok (.ifCond .ne 5, 3) := by decide +kernel
theorem dX7_size_11 : decode cX7_size 11 = .ok (.iconst (-1), 1) := by decide +kernel
theorem dX7_size_12 : decode cX7_size 12 = .ok (.ireturn, 1) := by decide +kernel
theorem dX7_size_13 : decode cX7_size 13 = .ok (.aload_n 0, 1) := by decide +kernel
theorem dX7_size_14 : decode cX7_size 14 = .ok (.iload_n 1, 1) := by decide +kernel
theorem dX7_size_15 : decode cX7_size 15 = .ok (.invokevirtual 181, 3) := by decide +kernel
theorem dX7_size_18 : decode cX7_size 18 = .ok (.iconst 0, 1) := by decide +kernel
theorem dX7_size_19 : decode cX7_size 19 = .ok (.istore_n 2, 1) := by decide +kernel
theorem dX7_size_20 : decode cX7_size 20 = .ok (.iconst 0, 1) := by decide +kernel
theorem dX7_size_21 : decode cX7_size 21 = .ok (.istore_n 3, 1) := by decide +kernel
theorem dX7_size_22 : decode cX7_size 22 = .ok (.iload_n 3, 1) := by decide +kernel
theorem dX7_size_23 : decode cX7_size 23 = .ok (.aload_n 0, 1) := by decide +kernel
theorem dX7_size_24 : decode cX7_size 24 = .ok (.getfield 19, 3) := by decide +kernel
theorem dX7_size_27 : decode cX7_size 27 = .ok (.invokevirtual 184, 3) := by decide +kernel
theorem dX7_size_30 : decode cX7_size 30 = .ok (.if_icmp .ge 23, 3) := by decide +kernel
theorem dX7_size_33 : decode cX7_size 33 = .ok (.aload_n 0, 1) := by decide +kernel
theorem dX7_size_34 : decode cX7_size 34 = .ok (.getfield 26, 3) := by decide +kernel
theorem dX7_size_37 : decode cX7_size 37 = .ok (.iload_n 3, 1) := by decide +kernel
theorem dX7_size_38 : decode cX7_size 38 = .ok (.invokevirtual 187, 3) := by decide +kernel
theorem dX7_size_41 : decode cX7_size 41 = .ok (.ifCond .eq 6, 3) := by decide +kernel
theorem dX7_size_44 : decode cX7_size 44 = .ok (.iinc 2 1, 3) := by decide +kernel
theorem dX7_size_47 : decode cX7_size 47 = .ok (.iinc 3 1, 3) := by decide +kernel
theorem dX7_size_50 : decode cX7_size 50 = .ok (.goto (-28), 3) := by decide +kernel
theorem dX7_size_53 : decode cX7_size 53 = .ok (.iload_n 2, 1) := by decide +kernel
theorem dX7_size_54 : decode cX7_size 54 = .ok (.ireturn, 1) := by decide +kernel
set_option maxRecDepth 20000 in
theorem ggX7_next_X0_canBeAsked : GoodIn wsX7_next wsX0_canBeAsked := goodIn_r _ [14, 15, 16, 17, 13, 18, 19, 20, 21, 22, 23, 24, 76, 77, 78, 79] (by decide +kernel) (by decide +kernel)
set_option maxRecDepth 20000 in
theorem gX7_next_X0_canBeAsked : GoodIn wsX7_next (wsV RX7 58 RX0 yX0_canBeAsked wsX0_canBeAsked) := goodIn_app (goodIn_of _ (by decide +kernel)) ggX7_next_X0_canBeAsked
set_option maxRecDepth 20000 in
theorem ggX7_next_X7_look : GoodIn wsX7_next wsX7_look := goodIn_r _ [29, 1, 5, 30, 31, 32, 13, 33, 24, 34, 35, 36, 37, 38, 39, 40, 41, 42, 43, 44, 45, 46, 47, 48, 49, 50, 51, 52, 69, 70, 71, 72, 73, 74, 75, 76, 77, 78, 79, 80, 81, 82, 83, 84, 85, 86, 87] (by decide +kernel) (by decide +kernel)
set_option maxRecDepth 20000 in
theorem gX7_next_X7_look : GoodIn wsX7_next (wsV RX7 181 RX7 yX7_look wsX7_look) := goodIn_app (goodIn_of _ (by decide +kernel)) ggX7_next_X7_look
set_option maxRecDepth 20000 in
theorem ggX7_next_X2_count : GoodIn wsX7_next wsX2_count := goodIn_r _ [57, 58, 88, 89] (by decide +kernel) (by decide +kernel)
set_option maxRecDepth 20000 in
theorem gX7_next_X2_count : GoodIn wsX7_next (wsV RX7 184 RX2 yX2_count wsX2_count) := goodIn_app (goodIn_of _ (by decide +kernel)) ggX7_next_X2_count
set_option maxRecDepth 20000 in
theorem ggX7_next_X2_at : GoodIn wsX7_next wsX2_at := goodIn_r _ [62, 63, 88, 89] (by decide +kernel) (by decide +kernel)
set_option maxRecDepth 20000 in
theorem gX7_next_X2_at : GoodIn wsX7_next (wsV RX7 192 RX2 yX2_at wsX2_at) := goodIn_app (goodIn_of _ (by decide +kernel)) ggX7_next_X2_at
set_option maxRecDepth 20000 in
theorem ggX7_next_X6_hasFound : GoodIn wsX7_next wsX6_hasFound := goodIn_r _ [67, 45, 68, 80, 81, 82, 83, 84, 85, 86, 87] (by decide +kernel) (by decide +kernel)
set_option maxRecDepth 20000 in
theorem gX7_next_X6_hasFound : GoodIn wsX7_next (wsV RX7 187 RX6 yX6_hasFound wsX6_hasFound) := goodIn_app (goodIn_of _ (by decide +kernel)) ggX7_next_X6_hasFound
theorem dX7_next_0 : decode cX7_next 0 = .ok (.aload_n 0, 1) := by decide +kernel
theorem dX7_next_1 : decode cX7_next 1 = .ok (.getfield 10, 3) := by decide +kernel
theorem dX7_next_4 : decode cX7_next 4 = .ok (.iload_n 1, 1) := by decide +kernel
theorem dX7_next_5 : decode cX7_next 5 = .ok (.invokevirtual 58, 3) := by decide +kernel
theorem dX7_next_8 : decode cX7_next 8 = .ok (.ifCond .ne 7, 3) := by decide +kernel
theorem dX7_next_11 : decode cX7_next 11 = .ok (.ldc2_w 70, 3) := by decide +kernel
theorem dX7_next_14 : decode cX7_next 14 = .ok (.lreturn, 1) := by decide +kernel
theorem dX7_next_15 : decode cX7_next 15 = .ok (.aload_n 0, 1) := by decide +kernel
theorem dX7_next_16 : decode cX7_next 16 = .ok (.iload_n 1, 1) := by decide +kernel
theorem dX7_next_17 : decode cX7_next 17 = .ok (.invokevirtual 181, 3) := by decide +kernel
theorem dX7_next_20 : decode cX7_next 20 = .ok (.ldc2_w 190, 3) := by decide +kernel
theorem dX7_next_23 : decode cX7_next 23 = .ok (.lstore_n 3, 1) := by decide +kernel
theorem dX7_next_24 : decode cX7_next 24 = .ok (.iconst 0, 1) := by decide +kernel
theorem dX7_next_25 : decode cX7_next 25 = .ok (.istore 5, 2) := by decide +kernel
theorem dX7_next_27 : decode cX7_next 27 = .ok (.iload 5, 2) := by decide +kernel
theorem dX7_next_29 : decode cX7_next 29 = .ok (.aload_n 0, 1) := by decide +kernel
theorem dX7_next_30 : decode cX7_next 30 = .ok (.getfield 19, 3) := by decide +kernel
theorem dX7_next_33 : decode cX7_next 33 = .ok (.invokevirtual 184, 3) := by decide +kernel
theorem dX7_next_36 : decode cX7_next 36 = .ok (.if_icmp .ge 49, 3) := by decide +kernel
theorem dX7_next_39 : decode cX7_next 39 = .ok (.aload_n 0, 1) := by decide +kernel
theorem dX7_next_40 : decode cX7_next 40 = .ok (.getfield 19, 3) := by decide +kernel
theorem dX7_next_43 : decode cX7_next 43 = .ok (.iload 5, 2) := by decide +kernel
theorem dX7_next_45 : decode cX7_next 45 = .ok (.invokevirtual 192, 3) := by decide +kernel
theorem dX7_next_48 : decode cX7_next 48 = .ok (.iload_n 2, 1) := by decide +kernel
theorem dX7_next_49 : decode cX7_next 49 = .ok (.if_icmp .le 30, 3) := by decide +kernel
theorem dX7_next_52 : decode cX7_next 52 = .ok (.aload_n 0, 1) := by decide +kernel
theorem dX7_next_53 : decode cX7_next 53 = .ok (.getfield 26, 3) := by decide +kernel
theorem dX7_next_56 : decode cX7_next 56 = .ok (.iload 5, 2) := by decide +kernel
theorem dX7_next_58 : decode cX7_next 58 = .ok (.invokevirtual 187, 3) := by decide +kernel
theorem dX7_next_61 : decode cX7_next 61 = .ok (.ifCond .eq 18, 3) := by decide +kernel
theorem dX7_next_64 : decode cX7_next 64 = .ok (.lload_n 3, 1) := by decide +kernel
theorem dX7_next_65 : decode cX7_next 65 = .ok (.aload_n 0, 1) := by decide +kernel
theorem dX7_next_66 : decode cX7_next 66 = .ok (.getfield 19, 3) := by decide +kernel
theorem dX7_next_69 : decode cX7_next 69 = .ok (.iload 5, 2) := by decide +kernel
theorem dX7_next_71 : decode cX7_next 71 = .ok (.invokevirtual 192, 3) := by decide +kernel
theorem dX7_next_74 : decode cX7_next 74 = .ok (.i2l, 1) := by decide +kernel
theorem dX7_next_75 : decode cX7_next 75 = .ok (.invokestatic 195, 3) := by decide +kernel
theorem dX7_next_78 : decode cX7_next 78 = .ok (.lstore_n 3, 1) := by decide +kernel
theorem dX7_next_79 : decode cX7_next 79 = .ok (.iinc 5 1, 3) := by decide +kernel
theorem dX7_next_82 : decode cX7_next 82 = .ok (.goto (-55), 3) := by decide +kernel
theorem dX7_next_85 : decode cX7_next 85 = .ok (.lload_n 3, 1) := by decide +kernel
theorem dX7_next_86 : decode cX7_next 86 = .ok (.lreturn, 1) := by decide +kernel
set_option maxRecDepth 20000 in
theorem ggX7_sum_X0_canBeAsked : GoodIn wsX7_sum wsX0_canBeAsked := goodIn_r _ [9, 10, 11, 12, 8, 13, 14, 15, 16, 17, 18, 19, 77, 78, 79, 80] (by decide +kernel) (by decide +kernel)
set_option maxRecDepth 20000 in
theorem gX7_sum_X0_canBeAsked : GoodIn wsX7_sum (wsV RX7 58 RX0 yX0_canBeAsked wsX0_canBeAsked) := goodIn_app (goodIn_of _ (by decide +kernel)) ggX7_sum_X0_canBeAsked
set_option maxRecDepth 20000 in
theorem ggX7_sum_X7_look : GoodIn wsX7_sum wsX7_look := goodIn_r _ [24, 1, 4, 25, 26, 27, 8, 28, 19, 29, 30, 31, 32, 33, 34, 35, 36, 37, 38, 39, 40, 41, 42, 43, 44, 45, 46, 47, 70, 71, 72, 73, 74, 75, 76, 77, 78, 79, 80, 81, 82, 83, 84, 85, 86, 87, 88] (by decide +kernel) (by decide +kernel)
set_option maxRecDepth 20000 in
theorem gX7_sum_X7_look : GoodIn wsX7_sum (wsV RX7 181 RX7 yX7_look wsX7_look) := goodIn_app (goodIn_of _ (by decide +kernel)) ggX7_sum_X7_look
set_option maxRecDepth 20000 in
theorem ggX7_sum_X2_count : GoodIn wsX7_sum wsX2_count := goodIn_r _ [52, 53, 89, 90] (by decide +kernel) (by decide +kernel)
set_option maxRecDepth 20000 in
theorem gX7_sum_X2_count : GoodIn wsX7_sum (wsV RX7 184 RX2 yX2_count wsX2_count) := goodIn_app (goodIn_of _ (by decide +kernel)) ggX7_sum_X2_count
set_option maxRecDepth 20000 in
theorem ggX7_sum_X2_at : GoodIn wsX7_sum wsX2_at := goodIn_r _ [57, 58, 89, 90] (by decide +kernel) (by decide +kernel)
set_option maxRecDepth 20000 in
theorem gX7_sum_X2_at : GoodIn wsX7_sum (wsV RX7 192 RX2 yX2_at wsX2_at) := goodIn_app (goodIn_of _ (by decide +kernel)) ggX7_sum_X2_at
set_option maxRecDepth 20000 in
theorem ggX7_sum_X6_hasFound : GoodIn wsX7_sum wsX6_hasFound := goodIn_r _ [62, 40, 63, 81, 82, 83, 84, 85, 86, 87, 88] (by decide +kernel) (by decide +kernel)
set_option maxRecDepth 20000 in
theorem gX7_sum_X6_hasFound : GoodIn wsX7_sum (wsV RX7 187 RX6 yX6_hasFound wsX6_hasFound) := goodIn_app (goodIn_of _ (by decide +kernel)) ggX7_sum_X6_hasFound
set_option maxRecDepth 20000 in
theorem ggX7_sum_X6_valueFound : GoodIn wsX7_sum wsX6_valueFound := goodIn_r _ [67, 40, 68, 69, 81, 82, 83, 84, 85, 86, 87, 88] (by decide +kernel) (by decide +kernel)
set_option maxRecDepth 20000 in
theorem gX7_sum_X6_valueFound : GoodIn wsX7_sum (wsV RX7 201 RX6 yX6_valueFound wsX6_valueFound) := goodIn_app (goodIn_of _ (by decide +kernel)) ggX7_sum_X6_valueFound
theorem dX7_sum_0 : decode cX7_sum 0 = .ok (.aload_n 0, 1) := by decide +kernel
theorem dX7_sum_1 : decode cX7_sum 1 = .ok (.getfield 10, 3) := by decide +kernel
theorem dX7_sum_4 : decode cX7_sum 4 = .ok (.iload_n 1, 1) := by decide +kernel
theorem dX7_sum_5 : decode cX7_sum 5 = .ok (.invokevirtual 58, 3) := by decide +kernel
theorem dX7_sum_8 : decode cX7_sum 8 = .ok (.ifCond .ne 7, 3) := by decide +kernel
theorem dX7_sum_11 : decode cX7_sum 11 = .ok (.ldc2_w 70, 3) := by decide +kernel
theorem dX7_sum_14 : decode cX7_sum 14 = .ok (.lreturn, 1) := by decide +kernel
theorem dX7_sum_15 : decode cX7_sum 15 = .ok (.aload_n 0, 1) := by decide +kernel
theorem dX7_sum_16 : decode cX7_sum 16 = .ok (.iload_n 1, 1) := by decide +kernel
theorem dX7_sum_17 : decode cX7_sum 17 = .ok (.invokevirtual 181, 3) := by decide +kernel
theorem dX7_sum_20 : decode cX7_sum 20 = .ok (.lconst 0, 1) := by decide +kernel
theorem dX7_sum_21 : decode cX7_sum 21 = .ok (.lstore 4, 2) := by decide +kernel
theorem dX7_sum_23 : decode cX7_sum 23 = .ok (.iconst 0, 1) := by decide +kernel
theorem dX7_sum_24 : decode cX7_sum 24 = .ok (.istore 6, 2) := by decide +kernel
theorem dX7_sum_26 : decode cX7_sum 26 = .ok (.iload 6, 2) := by decide +kernel
theorem dX7_sum_28 : decode cX7_sum 28 = .ok (.aload_n 0, 1) := by decide +kernel
theorem dX7_sum_29 : decode cX7_sum 29 = .ok (.getfield 19, 3) := by decide +kernel
theorem dX7_sum_32 : decode cX7_sum 32 = .ok (.invokevirtual 184, 3) := by decide +kernel
theorem dX7_sum_35 : decode cX7_sum 35 = .ok (.if_icmp .ge 58, 3) := by decide +kernel
theorem dX7_sum_38 : decode cX7_sum 38 = .ok (.aload_n 0, 1) := by decide +kernel
theorem dX7_sum_39 : decode cX7_sum 39 = .ok (.getfield 19, 3) := by decide +kernel
theorem dX7_sum_42 : decode cX7_sum 42 = .ok (.iload 6, 2) := by decide +kernel
theorem dX7_sum_44 : decode cX7_sum 44 = .ok (.invokevirtual 192, 3) := by decide +kernel
theorem dX7_sum_47 : decode cX7_sum 47 = .ok (.istore 7, 2) := by decide +kernel
theorem dX7_sum_49 : decode cX7_sum 49 = .ok (.iload 7, 2) := by decide +kernel
theorem dX7_sum_51 : decode cX7_sum 51 = .ok (.iload_n 2, 1) := by decide +kernel
theorem dX7_sum_52 : decode cX7_sum 52 = .ok (.if_icmp .lt 35, 3) := by decide +kernel
theorem dX7_sum_55 : decode cX7_sum 55 = .ok (.iload 7, 2) := by decide +kernel
theorem dX7_sum_57 : decode cX7_sum 57 = .ok (.iload_n 3, 1) := by decide +kernel
theorem dX7_sum_58 : decode cX7_sum 58 = .ok (.if_icmp .gt 29, 3) := by decide +kernel
theorem dX7_sum_61 : decode cX7_sum 61 = .ok (.aload_n 0, 1) := by decide +kernel
theorem dX7_sum_62 : decode cX7_sum 62 = .ok (.getfield 26, 3) := by decide +kernel
theorem dX7_sum_65 : decode cX7_sum 65 = .ok (.iload 6, 2) := by decide +kernel
theorem dX7_sum_67 : decode cX7_sum 67 = .ok (.invokevirtual 187, 3) := by decide +kernel
theorem dX7_sum_70 : decode cX7_sum 70 = .ok (.ifCond .eq 17, 3) := by decide +kernel
theorem dX7_sum_73 : decode cX7_sum 73 = .ok (.lload 4, 2) := by decide +kernel
theorem dX7_sum_75 : decode cX7_sum 75 = .ok (.aload_n 0, 1) := by decide +kernel
theorem dX7_sum_76 : decode cX7_sum 76 = .ok (.getfield 26, 3) := by decide +kernel
theorem dX7_sum_79 : decode cX7_sum 79 = .ok (.iload 6, 2) := by decide +kernel
theorem dX7_sum_81 : decode cX7_sum 81 = .ok (.invokevirtual 201, 3) := by decide +kernel
theorem dX7_sum_84 : decode cX7_sum 84 = .ok (.ladd, 1) := by decide +kernel
theorem dX7_sum_85 : decode cX7_sum 85 = .ok (.lstore 4, 2) := by decide +kernel
theorem dX7_sum_87 : decode cX7_sum 87 = .ok (.iinc 6 1, 3) := by decide +kernel
theorem dX7_sum_90 : decode cX7_sum 90 = .ok (.goto (-64), 3) := by decide +kernel
theorem dX7_sum_93 : decode cX7_sum 93 = .ok (.lload 4, 2) := by decide +kernel
theorem dX7_sum_95 : decode cX7_sum 95 = .ok (.lreturn, 1) := by decide +kernel
set_option maxRecDepth 20000 in
theorem ggX7_change_X0_isActive : GoodIn wsX7_change wsX0_isActive := goodIn_r _ [11, 12, 13, 14, 15, 10, 16, 17, 144, 145, 146, 147] (by decide +kernel) (by decide +kernel)
set_option maxRecDepth 20000 in
theorem gX7_change_X0_isActive : GoodIn wsX7_change (wsV RX7 93 RX0 yX0_isActive wsX0_isActive) := goodIn_app (goodIn_of _ (by decide +kernel)) ggX7_change_X0_isActive
set_option maxRecDepth 20000 in
theorem ggX7_change_X2_findOrAdd : GoodIn wsX7_change wsX2_findOrAdd := goodIn_r _ [22, 23, 24, 25, 26, 27, 21, 28, 148, 149] (by decide +kernel) (by decide +kernel)
set_option maxRecDepth 20000 in
theorem gX7_change_X2_findOrAdd : GoodIn wsX7_change (wsV RX7 72 RX2 yX2_findOrAdd wsX2_findOrAdd) := goodIn_app (goodIn_of _ (by decide +kernel)) ggX7_change_X2_findOrAdd
set_option maxRecDepth 20000 in
theorem ggX7_change_X1_isFull : GoodIn wsX7_change wsX1_isFull := goodIn_r _ [33, 34, 150, 151, 152, 153] (by decide +kernel) (by decide +kernel)
set_option maxRecDepth 20000 in
theorem gX7_change_X1_isFull : GoodIn wsX7_change (wsV RX7 75 RX1 yX1_isFull wsX1_isFull) := goodIn_app (goodIn_of _ (by decide +kernel)) ggX7_change_X1_isFull
set_option maxRecDepth 20000 in
theorem ggX7_change_X6_isFull : GoodIn wsX7_change wsX6_isFull := goodIn_r _ [39, 40, 154, 155, 156, 157, 158, 159, 160, 161] (by decide +kernel) (by decide +kernel)
set_option maxRecDepth 20000 in
theorem gX7_change_X6_isFull : GoodIn wsX7_change (wsV RX7 205 RX6 yX6_isFull wsX6_isFull) := goodIn_app (goodIn_of _ (by decide +kernel)) ggX7_change_X6_isFull
set_option maxRecDepth 20000 in
theorem ggX7_change_X7_mustWait : GoodIn wsX7_change wsX7_mustWait := goodIn_r _ [45, 46, 47, 48, 49, 44, 50, 1, 3, 51, 52, 53, 10, 54, 17, 55, 56, 57, 58, 59, 60, 61, 62, 63, 32, 64, 34, 65, 66, 67, 68, 69, 70, 71, 72, 73, 74, 75, 76, 77, 78, 79, 80, 81, 82, 137, 138, 139, 140, 141, 142, 143, 144, 145, 146, 147, 150, 151, 152, 153, 162, 163] (by decide +kernel) (by decide +kernel)
set_option maxRecDepth 20000 in
theorem gX7_change_X7_mustWait : GoodIn wsX7_change (wsV RX7 76 RX7 yX7_mustWait wsX7_mustWait) := goodIn_app (goodIn_of _ (by decide +kernel)) ggX7_change_X7_mustWait
set_option maxRecDepth 20000 in
theorem ggX7_change_X7_valueSeen : GoodIn wsX7_change wsX7_valueSeen := goodIn_r _ [86, 2, 5, 4, 87, 26, 27, 21, 28, 23, 24, 88, 89, 90, 44, 91, 1, 51, 52, 53, 10, 54, 17, 55, 56, 57, 58, 59, 60, 92, 93, 94, 38, 95, 96, 40, 97, 98, 99, 100, 101, 102, 103, 104, 105, 106, 107, 108, 109, 110, 111, 112, 113, 137, 138, 139, 140, 141, 142, 143, 148, 149, 144, 145, 146, 147, 154, 155, 156, 157, 158, 159, 160, 161] (by decide +kernel) (by decide +kernel)
set_option maxRecDepth 20000 in
theorem gX7_change_X7_valueSeen : GoodIn wsX7_change (wsV RX7 85 RX7 yX7_valueSeen wsX7_valueSeen) := goodIn_app (goodIn_of _ (by decide +kernel)) ggX7_change_X7_valueSeen
set_option maxRecDepth 20000 in
theorem ggX7_change_X1_add : GoodIn wsX7_change wsX1_add := goodIn_r _ [117, 71, 118, 119, 120, 121, 65, 34, 70, 122, 123, 124, 32, 125, 150, 151, 152, 153] (by decide +kernel) (by decide +kernel)
set_option maxRecDepth 20000 in
theorem gX7_change_X1_add : GoodIn wsX7_change (wsV RX7 82 RX1 yX1_add wsX1_add) := goodIn_app (goodIn_of _ (by decide +kernel)) ggX7_change_X1_add
set_option maxRecDepth 20000 in
theorem ggX7_change_X3_now : GoodIn wsX7_change wsX3_now := goodIn_r _ [130, 131, 164, 165] (by decide +kernel) (by decide +kernel)
set_option maxRecDepth 20000 in
theorem gX7_change_X3_now : GoodIn wsX7_change (wsV RX7 121 RX3 yX3_now wsX3_now) := goodIn_app (goodIn_of _ (by decide +kernel)) ggX7_change_X3_now
set_option maxRecDepth 20000 in
theorem ggX7_change_X6_add : GoodIn wsX7_change wsX6_add := goodIn_r _ [135, 97, 40, 98, 113, 107, 136, 154, 155, 156, 157, 158, 159, 160, 161] (by decide +kernel) (by decide +kernel)
set_option maxRecDepth 20000 in
theorem gX7_change_X6_add : GoodIn wsX7_change (wsV RX7 206 RX6 yX6_add wsX6_add) := goodIn_app (goodIn_of _ (by decide +kernel)) ggX7_change_X6_add
theorem dX7_change_0 : decode cX7_change 0 = .ok (.aload_n 0, 1) := by decide +kernel
theorem dX7_change_1 : decode cX7_change 1 = .ok (.getfield 10, 3) := by decide +kernel
theorem dX7_change_4 : decode cX7_change 4 = .ok (.iload_n 1, 1) := by decide +kernel
theorem dX7_change_5 : decode cX7_change 5 = .ok (.invokevirtual 93, 3) := by decide +kernel
theorem dX7_change_8 : decode cX7_change 8 = .ok (.ifCond .ne 5, 3) := by decide +kernel
theorem dX7_change_11 : decode cX7_change 11 = .ok (.iconst (-1), 1) := by decide +kernel
theorem dX7_change_12 : decode cX7_change 12 = .ok (.ireturn, 1) := by decide +kernel
theorem dX7_change_13 : decode cX7_change 13 = .ok (.aload_n 0, 1) := by decide +kernel
theorem dX7_change_14 : decode cX7_change 14 = .ok (.getfield 19, 3) := by decide +kernel
theorem dX7_change_17 : decode cX7_change 17 = .ok (.iload_n 2, 1) := by decide +kernel
theorem dX7_change_18 : decode cX7_change 18 = .ok (.invokevirtual 72, 3) := by decide +kernel
theorem dX7_change_21 : decode cX7_change 21 = .ok (.istore 5, 2) := by decide +kernel
theorem dX7_change_23 : decode cX7_change 23 = .ok (.iload 5, 2) := by decide +kernel
theorem dX7_change_25 : decode cX7_change 25 = .ok (.iconst (-1), 1) := by decide +kernel
theorem dX7_change_26 : decode cX7_change 26 = .ok (.if_icmp .eq 23, 3) := by decide +kernel
theorem dX7_change_29 : decode cX7_change 29 = .ok (.aload_n 0, 1) := by decide +kernel
theorem dX7_change_30 : decode cX7_change 30 = .ok (.getfield 33, 3) := by decide +kernel
theorem dX7_change_33 : decode cX7_change 33 = .ok (.invokevirtual 75, 3) := by decide +kernel
theorem dX7_change_36 : decode cX7_change 36 = .ok (.ifCond .ne 13, 3) := by decide +kernel
theorem dX7_change_39 : decode cX7_change 39 = .ok (.aload_n 0, 1) := by decide +kernel
theorem dX7_change_40 : decode cX7_change 40 = .ok (.getfield 26, 3) := by decide +kernel
theorem dX7_change_43 : decode cX7_change 43 = .ok (.invokevirtual 205, 3) := by decide +kernel
theorem dX7_change_46 : decode cX7_change 46 = .ok (.ifCond .eq 5, 3) := by decide +kernel
theorem dX7_change_49 : decode cX7_change 49 = .ok (.iconst (-1), 1) := by decide +kernel
theorem dX7_change_50 : decode cX7_change 50 = .ok (.ireturn, 1) := by decide +kernel
theorem dX7_change_51 : decode cX7_change 51 = .ok (.aload_n 0, 1) := by decide +kernel
theorem dX7_change_52 : decode cX7_change 52 = .ok (.iload_n 1, 1) := by decide +kernel
theorem dX7_change_53 : decode cX7_change 53 = .ok (.iload 5, 2) := by decide +kernel
theorem dX7_change_55 : decode cX7_change 55 = .ok (.iconst 2, 1) := by decide +kernel
theorem dX7_change_56 : decode cX7_change 56 = .ok (.invokevirtual 76, 3) := by decide +kernel
theorem dX7_change_59 : decode cX7_change 59 = .ok (.ifCond .eq 6, 3) := by decide +kernel
theorem dX7_change_62 : decode cX7_change 62 = .ok (.bipush (-2), 2) := by decide +kernel
theorem dX7_change_64 : decode cX7_change 64 = .ok (.ireturn, 1) := by decide +kernel
theorem dX7_change_65 : decode cX7_change 65 = .ok (.aload_n 0, 1) := by decide +kernel
theorem dX7_change_66 : decode cX7_change 66 = .ok (.iload_n 1, 1) := by decide +kernel
theorem dX7_change_67 : decode cX7_change 67 = .ok (.iload_n 2, 1) := by decide +kernel
theorem dX7_change_68 : decode cX7_change 68 = .ok (.invokevirtual 85, 3) := by decide +kernel
theorem dX7_change_71 : decode cX7_change 71 = .ok (.ldc2_w 190, 3) := by decide +kernel
theorem dX7_change_74 : decode cX7_change 74 = .ok (.lcmp, 1) := by decide +kernel
theorem dX7_change_75 : decode cX7_change 75 = .ok (.ifCond .eq 7, 3) := by decide +kernel
theorem dX7_change_78 : decode cX7_change 78 = .ok (.iconst 1, 1) := by decide +kernel
theorem dX7_change_79 : decode cX7_change 79 = .ok (.goto 4, 3) := by decide +kernel
theorem dX7_change_82 : decode cX7_change 82 = .ok (.iconst 0, 1) := by decide +kernel
theorem dX7_change_83 : decode cX7_change 83 = .ok (.istore 6, 2) := by decide +kernel
theorem dX7_change_85 : decode cX7_change 85 = .ok (.aload_n 0, 1) := by decide +kernel
theorem dX7_change_86 : decode cX7_change 86 = .ok (.getfield 33, 3) := by decide +kernel
theorem dX7_change_89 : decode cX7_change 89 = .ok (.iload_n 1, 1) := by decide +kernel
theorem dX7_change_90 : decode cX7_change 90 = .ok (.iload 5, 2) := by decide +kernel
theorem dX7_change_92 : decode cX7_change 92 = .ok (.iconst 2, 1) := by decide +kernel
theorem dX7_change_93 : decode cX7_change 93 = .ok (.invokevirtual 82, 3) := by decide +kernel
theorem dX7_change_96 : decode cX7_change 96 = .ok (.aload_n 0, 1) := by decide +kernel
theorem dX7_change_97 : decode cX7_change 97 = .ok (.getfield 26, 3) := by decide +kernel
theorem dX7_change_100 : decode cX7_change 100 = .ok (.iload_n 1, 1) := by decide +kernel
theorem dX7_change_101 : decode cX7_change 101 = .ok (.iload 5, 2) := by decide +kernel
theorem dX7_change_103 : decode cX7_change 103 = .ok (.iload_n 3, 1) := by decide +kernel
theorem dX7_change_104 : decode cX7_change 104 = .ok (.iload 4, 2) := by decide +kernel
theorem dX7_change_106 : decode cX7_change 106 = .ok (.aload_n 0, 1) := by decide +kernel
theorem dX7_change_107 : decode cX7_change 107 = .ok (.getfield 40, 3) := by decide +kernel
theorem dX7_change_110 : decode cX7_change 110 = .ok (.invokevirtual 121, 3) := by decide +kernel
theorem dX7_change_113 : decode cX7_change 113 = .ok (.invokevirtual 206, 3) := by decide +kernel
theorem dX7_change_116 : decode cX7_change 116 = .ok (.iload 6, 2) := by decide +kernel
theorem dX7_change_118 : decode cX7_change 118 = .ok (.iload 4, 2) := by decide +kernel
theorem dX7_change_120 : decode cX7_change 120 = .ok (.if_icmp .ne 7, 3) := by decide +kernel
theorem dX7_change_123 : decode cX7_change 123 = .ok (.iconst 1, 1) := by decide +kernel
theorem dX7_change_124 : decode cX7_change 124 = .ok (.goto 4, 3) := by decide +kernel
theorem dX7_change_127 : decode cX7_change 127 = .ok (.iconst 0, 1) := by decide +kernel
theorem dX7_change_128 : decode cX7_change 128 = .ok (.ireturn, 1) := by decide +kernel
set_option maxRecDepth 20000 in
theorem ggX7_mustWait_X7_leastInTheWay : GoodIn wsX7_mustWait wsX7_leastInTheWay := goodIn_r _ [6, 7, 8, 9, 10, 11, 12, 13, 14, 15, 16, 17, 18, 19, 20, 21, 22, 23, 24, 25, 26, 27, 28, 29, 30, 31, 32, 33, 45, 46, 47, 48, 49, 50, 51, 52, 53, 54, 55, 56, 57, 58, 59] (by decide +kernel) (by decide +kernel)
set_option maxRecDepth 20000 in
theorem gX7_mustWait_X7_leastInTheWay : GoodIn wsX7_mustWait (wsV RX7 158 RX7 yX7_leastInTheWay wsX7_leastInTheWay) := goodIn_app (goodIn_of _ (by decide +kernel)) ggX7_mustWait_X7_leastInTheWay
set_option maxRecDepth 20000 in
theorem ggX7_mustWait_X5_clear : GoodIn wsX7_mustWait wsX5_clear := goodIn_r _ [38, 39, 60, 61] (by decide +kernel) (by decide +kernel)
set_option maxRecDepth 20000 in
theorem gX7_mustWait_X5_clear : GoodIn wsX7_mustWait (wsV RX7 209 RX5 yX5_clear wsX5_clear) := goodIn_app (goodIn_of _ (by decide +kernel)) ggX7_mustWait_X5_clear
set_option maxRecDepth 20000 in
theorem ggX7_mustWait_X5_set : GoodIn wsX7_mustWait wsX5_set := goodIn_r _ [43, 44, 39, 60, 61] (by decide +kernel) (by decide +kernel)
set_option maxRecDepth 20000 in
theorem gX7_mustWait_X5_set : GoodIn wsX7_mustWait (wsV RX7 212 RX5 yX5_set wsX5_set) := goodIn_app (goodIn_of _ (by decide +kernel)) ggX7_mustWait_X5_set
theorem dX7_mustWait_0 : decode cX7_mustWait 0 = .ok (.aload_n 0, 1) := by decide +kernel
theorem dX7_mustWait_1 : decode cX7_mustWait 1 = .ok (.iload_n 1, 1) := by decide +kernel
theorem dX7_mustWait_2 : decode cX7_mustWait 2 = .ok (.iload_n 2, 1) := by decide +kernel
theorem dX7_mustWait_3 : decode cX7_mustWait 3 = .ok (.iload_n 3, 1) := by decide +kernel
theorem dX7_mustWait_4 : decode cX7_mustWait 4 = .ok (.invokevirtual 158, 3) := by decide +kernel
theorem dX7_mustWait_7 : decode cX7_mustWait 7 = .ok (.ifCond .ne 13, 3) := by decide +kernel
theorem dX7_mustWait_10 : decode cX7_mustWait 10 = .ok (.aload_n 0, 1) := by decide +kernel
theorem dX7_mustWait_11 : decode cX7_mustWait 11 = .ok (.getfield 47, 3) := by decide +kernel
theorem dX7_mustWait_14 : decode cX7_mustWait 14 = .ok (.iload_n 1, 1) := by decide +kernel
theorem dX7_mustWait_15 : decode cX7_mustWait 15 = .ok (.invokevirtual 209, 3) := by decide +kernel
theorem dX7_mustWait_18 : decode cX7_mustWait 18 = .ok (.iconst 0, 1) := by decide +kernel
theorem dX7_mustWait_19 : decode cX7_mustWait 19 = .ok (.ireturn, 1) := by decide +kernel
theorem dX7_mustWait_20 : decode cX7_mustWait 20 = .ok (.aload_n 0, 1) := by decide +kernel
theorem dX7_mustWait_21 : decode cX7_mustWait 21 = .ok (.getfield 47, 3) := by decide +kernel
theorem dX7_mustWait_24 : decode cX7_mustWait 24 = .ok (.iload_n 1, 1) := by decide +kernel
theorem dX7_mustWait_25 : decode cX7_mustWait 25 = .ok (.iload_n 2, 1) := by decide +kernel
theorem dX7_mustWait_26 : decode cX7_mustWait 26 = .ok (.iload_n 3, 1) := by decide +kernel
theorem dX7_mustWait_27 : decode cX7_mustWait 27 = .ok (.invokevirtual 212, 3) := by decide +kernel
theorem dX7_mustWait_30 : decode cX7_mustWait 30 = .ok (.iconst 1, 1) := by decide +kernel
theorem dX7_mustWait_31 : decode cX7_mustWait 31 = .ok (.ireturn, 1) := by decide +kernel
set_option maxRecDepth 20000 in
theorem ggX7_leastInTheWay_X0_trace : GoodIn wsX7_leastInTheWay wsX0_trace := goodIn_r _ [7, 8, 9, 10, 35, 36, 37, 38] (by decide +kernel) (by decide +kernel)
set_option maxRecDepth 20000 in
theorem gX7_leastInTheWay_X0_trace : GoodIn wsX7_leastInTheWay (wsV RX7 215 RX0 yX0_trace wsX0_trace) := goodIn_app (goodIn_of _ (by decide +kernel)) ggX7_leastInTheWay_X0_trace
set_option maxRecDepth 20000 in
theorem ggX7_leastInTheWay_X0_line : GoodIn wsX7_leastInTheWay wsX0_line := goodIn_r _ [14, 9, 35, 36, 37, 38] (by decide +kernel) (by decide +kernel)
set_option maxRecDepth 20000 in
theorem gX7_leastInTheWay_X0_line : GoodIn wsX7_leastInTheWay (wsV RX7 218 RX0 yX0_line wsX0_line) := goodIn_app (goodIn_of _ (by decide +kernel)) ggX7_leastInTheWay_X0_line
set_option maxRecDepth 20000 in
theorem ggX7_leastInTheWay_X1_leastInTheWay : GoodIn wsX7_leastInTheWay wsX1_leastInTheWay := goodIn_r _ [19, 20, 21, 22, 23, 24, 18, 25, 26, 27, 39, 40, 41, 42] (by decide +kernel) (by decide +kernel)
set_option maxRecDepth 20000 in
theorem gX7_leastInTheWay_X1_leastInTheWay : GoodIn wsX7_leastInTheWay (wsV RX7 222 RX1 yX1_leastInTheWay wsX1_leastInTheWay) := goodIn_app (goodIn_of _ (by decide +kernel)) ggX7_leastInTheWay_X1_leastInTheWay
theorem dX7_leastInTheWay_0 : decode cX7_leastInTheWay 0 = .ok (.aload_n 0, 1) := by decide +kernel
theorem dX7_leastInTheWay_1 : decode cX7_leastInTheWay 1 = .ok (.getfield 10, 3) := by decide +kernel
theorem dX7_leastInTheWay_4 : decode cX7_leastInTheWay 4 = .ok (.iload_n 1, 1) := by decide +kernel
theorem dX7_leastInTheWay_5 : decode cX7_leastInTheWay 5 = .ok (.invokevirtual 215, 3) := by decide +kernel
theorem dX7_leastInTheWay_8 : decode cX7_leastInTheWay 8 = .ok (.aload_n 0, 1) := by decide +kernel
theorem dX7_leastInTheWay_9 : decode cX7_leastInTheWay 9 = .ok (.getfield 33, 3) := by decide +kernel
theorem dX7_leastInTheWay_12 : decode cX7_leastInTheWay 12 = .ok (.iload_n 2, 1) := by decide +kernel
theorem dX7_leastInTheWay_13 : decode cX7_leastInTheWay 13 = .ok (.iload_n 3, 1) := by decide +kernel
theorem dX7_leastInTheWay_14 : decode cX7_leastInTheWay 14 = .ok (.aload_n 0, 1) := by decide +kernel
theorem dX7_leastInTheWay_15 : decode cX7_leastInTheWay 15 = .ok (.getfield 10, 3) := by decide +kernel
theorem dX7_leastInTheWay_18 : decode cX7_leastInTheWay 18 = .ok (.invokevirtual 218, 3) := by decide +kernel
theorem dX7_leastInTheWay_21 : decode cX7_leastInTheWay 21 = .ok (.invokevirtual 222, 3) := by decide +kernel
theorem dX7_leastInTheWay_24 : decode cX7_leastInTheWay 24 = .ok (.ireturn, 1) := by decide +kernel
set_option maxRecDepth 20000 in
theorem ggX7_valueSeen_X2_find : GoodIn wsX7_valueSeen wsX2_find := goodIn_r _ [8, 9, 10, 60, 61] (by decide +kernel) (by decide +kernel)
set_option maxRecDepth 20000 in
theorem gX7_valueSeen_X2_find : GoodIn wsX7_valueSeen (wsV RX7 153 RX2 yX2_find wsX2_find) := goodIn_app (goodIn_of _ (by decide +kernel)) ggX7_valueSeen_X2_find
set_option maxRecDepth 20000 in
theorem ggX7_valueSeen_X7_look : GoodIn wsX7_valueSeen wsX7_look := goodIn_r _ [15, 16, 3, 17, 18, 19, 20, 21, 22, 23, 24, 25, 26, 27, 28, 29, 30, 31, 32, 33, 34, 35, 36, 37, 38, 39, 40, 41, 53, 54, 55, 56, 57, 58, 59, 62, 63, 64, 65, 66, 67, 68, 69, 70, 71, 72, 73] (by decide +kernel) (by decide +kernel)
set_option maxRecDepth 20000 in
theorem gX7_valueSeen_X7_look : GoodIn wsX7_valueSeen (wsV RX7 181 RX7 yX7_look wsX7_look) := goodIn_app (goodIn_of _ (by decide +kernel)) ggX7_valueSeen_X7_look
set_option maxRecDepth 20000 in
theorem ggX7_valueSeen_X6_hasFound : GoodIn wsX7_valueSeen wsX6_hasFound := goodIn_r _ [45, 34, 46, 66, 67, 68, 69, 70, 71, 72, 73] (by decide +kernel) (by decide +kernel)
set_option maxRecDepth 20000 in
theorem gX7_valueSeen_X6_hasFound : GoodIn wsX7_valueSeen (wsV RX7 187 RX6 yX6_hasFound wsX6_hasFound) := goodIn_app (goodIn_of _ (by decide +kernel)) ggX7_valueSeen_X6_hasFound
set_option maxRecDepth 20000 in
theorem ggX7_valueSeen_X6_valueFound : GoodIn wsX7_valueSeen wsX6_valueFound := goodIn_r _ [50, 34, 51, 52, 66, 67, 68, 69, 70, 71, 72, 73] (by decide +kernel) (by decide +kernel)
set_option maxRecDepth 20000 in
theorem gX7_valueSeen_X6_valueFound : GoodIn wsX7_valueSeen (wsV RX7 201 RX6 yX6_valueFound wsX6_valueFound) := goodIn_app (goodIn_of _ (by decide +kernel)) ggX7_valueSeen_X6_valueFound
theorem dX7_valueSeen_0 : decode cX7_valueSeen 0 = .ok (.aload_n 0, 1) := by decide +kernel
theorem dX7_valueSeen_1 : decode cX7_valueSeen 1 = .ok (.getfield 19, 3) := by decide +kernel
theorem dX7_valueSeen_4 : decode cX7_valueSeen 4 = .ok (.iload_n 2, 1) := by decide +kernel
theorem dX7_valueSeen_5 : decode cX7_valueSeen 5 = .ok (.invokevirtual 153, 3) := by decide +kernel
theorem dX7_valueSeen_8 : decode cX7_valueSeen 8 = .ok (.istore_n 3, 1) := by decide +kernel
theorem dX7_valueSeen_9 : decode cX7_valueSeen 9 = .ok (.iload_n 3, 1) := by decide +kernel
theorem dX7_valueSeen_10 : decode cX7_valueSeen 10 = .ok (.iconst (-1), 1) := by decide +kernel
theorem dX7_valueSeen_11 : decode cX7_valueSeen 11 = .ok (.if_icmp .ne 7, 3) := by decide +kernel
theorem dX7_valueSeen_14 : decode cX7_valueSeen 14 = .ok (.ldc2_w 190, 3) := by decide +kernel
theorem dX7_valueSeen_17 : decode cX7_valueSeen 17 = .ok (.lreturn, 1) := by decide +kernel
theorem dX7_valueSeen_18 : decode cX7_valueSeen 18 = .ok (.aload_n 0, 1) := by decide +kernel
theorem dX7_valueSeen_19 : decode cX7_valueSeen 19 = .ok (.iload_n 1, 1) := by decide +kernel
theorem dX7_valueSeen_20 : decode cX7_valueSeen 20 = .ok (.invokevirtual 181, 3) := by decide +kernel
theorem dX7_valueSeen_23 : decode cX7_valueSeen 23 = .ok (.aload_n 0, 1) := by decide +kernel
theorem dX7_valueSeen_24 : decode cX7_valueSeen 24 = .ok (.getfield 26, 3) := by decide +kernel
theorem dX7_valueSeen_27 : decode cX7_valueSeen 27 = .ok (.iload_n 3, 1) := by decide +kernel
theorem dX7_valueSeen_28 : decode cX7_valueSeen 28 = .ok (.invokevirtual 187, 3) := by decide +kernel
theorem dX7_valueSeen_31 : decode cX7_valueSeen 31 = .ok (.ifCond .eq 14, 3) := by decide +kernel
theorem dX7_valueSeen_34 : decode cX7_valueSeen 34 = .ok (.aload_n 0, 1) := by decide +kernel
theorem dX7_valueSeen_35 : decode cX7_valueSeen 35 = .ok (.getfield 26, 3) := by decide +kernel
theorem dX7_valueSeen_38 : decode cX7_valueSeen 38 = .ok (.iload_n 3, 1) := by decide +kernel
theorem dX7_valueSeen_39 : decode cX7_valueSeen 39 = .ok (.invokevirtual 201, 3) := by decide +kernel
theorem dX7_valueSeen_42 : decode cX7_valueSeen 42 = .ok (.goto 6, 3) := by decide +kernel
theorem dX7_valueSeen_45 : decode cX7_valueSeen 45 = .ok (.ldc2_w 190, 3) := by decide +kernel
theorem dX7_valueSeen_48 : decode cX7_valueSeen 48 = .ok (.lreturn, 1) := by decide +kernel
set_option maxRecDepth 20000 in
theorem ggX7_look_X0_trace : GoodIn wsX7_look wsX0_trace := goodIn_r _ [7, 8, 9, 10, 35, 36, 37, 38] (by decide +kernel) (by decide +kernel)
set_option maxRecDepth 20000 in
theorem gX7_look_X0_trace : GoodIn wsX7_look (wsV RX7 215 RX0 yX0_trace wsX0_trace) := goodIn_app (goodIn_of _ (by decide +kernel)) ggX7_look_X0_trace
set_option maxRecDepth 20000 in
theorem ggX7_look_X0_line : GoodIn wsX7_look wsX0_line := goodIn_r _ [14, 9, 35, 36, 37, 38] (by decide +kernel) (by decide +kernel)
set_option maxRecDepth 20000 in
theorem gX7_look_X0_line : GoodIn wsX7_look (wsV RX7 218 RX0 yX0_line wsX0_line) := goodIn_app (goodIn_of _ (by decide +kernel)) ggX7_look_X0_line
set_option maxRecDepth 20000 in
theorem ggX7_look_X6_findSeen : GoodIn wsX7_look wsX6_findSeen := goodIn_r _ [19, 20, 21, 22, 23, 24, 25, 26, 27, 39, 40, 41, 42, 43, 44, 45, 46] (by decide +kernel) (by decide +kernel)
set_option maxRecDepth 20000 in
theorem gX7_look_X6_findSeen : GoodIn wsX7_look (wsV RX7 225 RX6 yX6_findSeen wsX6_findSeen) := goodIn_app (goodIn_of _ (by decide +kernel)) ggX7_look_X6_findSeen
theorem dX7_look_0 : decode cX7_look 0 = .ok (.aload_n 0, 1) := by decide +kernel
theorem dX7_look_1 : decode cX7_look 1 = .ok (.getfield 10, 3) := by decide +kernel
theorem dX7_look_4 : decode cX7_look 4 = .ok (.iload_n 1, 1) := by decide +kernel
theorem dX7_look_5 : decode cX7_look 5 = .ok (.invokevirtual 215, 3) := by decide +kernel
theorem dX7_look_8 : decode cX7_look 8 = .ok (.aload_n 0, 1) := by decide +kernel
theorem dX7_look_9 : decode cX7_look 9 = .ok (.getfield 26, 3) := by decide +kernel
theorem dX7_look_12 : decode cX7_look 12 = .ok (.aload_n 0, 1) := by decide +kernel
theorem dX7_look_13 : decode cX7_look 13 = .ok (.getfield 10, 3) := by decide +kernel
theorem dX7_look_16 : decode cX7_look 16 = .ok (.invokevirtual 218, 3) := by decide +kernel
theorem dX7_look_19 : decode cX7_look 19 = .ok (.invokevirtual 225, 3) := by decide +kernel
theorem dX7_look_22 : decode cX7_look 22 = .ok (.return_, 1) := by decide +kernel
set_option maxRecDepth 20000 in
theorem ggX7_canEndOrGoBack_X0_isActive : GoodIn wsX7_canEndOrGoBack wsX0_isActive := goodIn_r _ [6, 7, 8, 9, 10, 5, 11, 12, 25, 26, 27, 28] (by decide +kernel) (by decide +kernel)
set_option maxRecDepth 20000 in
theorem gX7_canEndOrGoBack_X0_isActive : GoodIn wsX7_canEndOrGoBack (wsV RX7 93 RX0 yX0_isActive wsX0_isActive) := goodIn_app (goodIn_of _ (by decide +kernel)) ggX7_canEndOrGoBack_X0_isActive
set_option maxRecDepth 20000 in
theorem ggX7_canEndOrGoBack_X0_activeChildrenOf : GoodIn wsX7_canEndOrGoBack wsX0_activeChildrenOf := goodIn_r _ [16, 12, 17, 7, 25, 26, 27, 28] (by decide +kernel) (by decide +kernel)
set_option maxRecDepth 20000 in
theorem gX7_canEndOrGoBack_X0_activeChildrenOf : GoodIn wsX7_canEndOrGoBack (wsV RX7 145 RX0 yX0_activeChildrenOf wsX0_activeChildrenOf) := goodIn_app (goodIn_of _ (by decide +kernel)) ggX7_canEndOrGoBack_X0_activeChildrenOf
theorem dX7_canEndOrGoBack_0 : decode cX7_canEndOrGoBack 0 = .ok (.aload_n 0, 1) := by decide +kernel
theorem dX7_canEndOrGoBack_1 : decode cX7_canEndOrGoBack 1 = .ok (.getfield 10, 3) := by decide +kernel
theorem dX7_canEndOrGoBack_4 : decode cX7_canEndOrGoBack 4 = .ok (.iload_n 1, 1) := by decide +kernel
theorem dX7_canEndOrGoBack_5 : decode cX7_canEndOrGoBack 5 = .ok (.invokevirtual 93, 3) := by decide +kernel
theorem dX7_canEndOrGoBack_8 : decode cX7_canEndOrGoBack 8 = .ok (.ifCond .eq 18, 3) := by decide +kernel
theorem dX7_canEndOrGoBack_11 : decode cX7_canEndOrGoBack 11 = .ok (.aload_n 0, 1) := by decide +kernel
theorem dX7_canEndOrGoBack_12 : decode cX7_canEndOrGoBack 12 = .ok (.getfield 10, 3) := by decide +kernel
theorem dX7_canEndOrGoBack_15 : decode cX7_canEndOrGoBack 15 = .ok (.iload_n 1, 1) := by decide +kernel
theorem dX7_canEndOrGoBack_16 : decode cX7_canEndOrGoBack 16 = .ok (.invokevirtual 145, 3) := by decide +kernel
theorem dX7_canEndOrGoBack_19 : decode cX7_canEndOrGoBack 19 = .ok (.ifCond .ne 7, 3) := by decide +kernel
theorem dX7_canEndOrGoBack_22 : decode cX7_canEndOrGoBack 22 = .ok (.iconst 1, 1) := by decide +kernel
theorem dX7_canEndOrGoBack_23 : decode cX7_canEndOrGoBack 23 = .ok (.goto 4, 3) := by decide +kernel
theorem dX7_canEndOrGoBack_26 : decode cX7_canEndOrGoBack 26 = .ok (.iconst 0, 1) := by decide +kernel
theorem dX7_canEndOrGoBack_27 : decode cX7_canEndOrGoBack 27 = .ok (.ireturn, 1) := by decide +kernel
set_option maxRecDepth 20000 in
theorem ggX7_end_X0_end : GoodIn wsX7_end wsX0_end := goodIn_r _ [10, 11, 55, 56, 57, 58] (by decide +kernel) (by decide +kernel)
set_option maxRecDepth 20000 in
theorem gX7_end_X0_end : GoodIn wsX7_end (wsV RX7 229 RX0 yX0_end wsX0_end) := goodIn_app (goodIn_of _ (by decide +kernel)) ggX7_end_X0_end
set_option maxRecDepth 20000 in
theorem ggX7_end_X6_drop : GoodIn wsX7_end wsX6_drop := goodIn_r _ [16, 17, 18, 19, 15, 20, 21, 22, 23, 59, 60, 61, 62, 63, 64, 65, 66] (by decide +kernel) (by decide +kernel)
set_option maxRecDepth 20000 in
theorem gX7_end_X6_drop : GoodIn wsX7_end (wsV RX7 230 RX6 yX6_drop wsX6_drop) := goodIn_app (goodIn_of _ (by decide +kernel)) ggX7_end_X6_drop
set_option maxRecDepth 20000 in
theorem ggX7_end_X1_drop : GoodIn wsX7_end wsX1_drop := goodIn_r _ [28, 29, 30, 67, 68, 69, 70] (by decide +kernel) (by decide +kernel)
set_option maxRecDepth 20000 in
theorem gX7_end_X1_drop : GoodIn wsX7_end (wsV RX7 233 RX1 yX1_drop wsX1_drop) := goodIn_app (goodIn_of _ (by decide +kernel)) ggX7_end_X1_drop
set_option maxRecDepth 20000 in
theorem ggX7_end_X3_drop : GoodIn wsX7_end wsX3_drop := goodIn_r _ [35, 36, 37, 38, 34, 39, 40, 41, 71, 72] (by decide +kernel) (by decide +kernel)
set_option maxRecDepth 20000 in
theorem gX7_end_X3_drop : GoodIn wsX7_end (wsV RX7 234 RX3 yX3_drop wsX3_drop) := goodIn_app (goodIn_of _ (by decide +kernel)) ggX7_end_X3_drop
set_option maxRecDepth 20000 in
theorem ggX7_end_X5_clear : GoodIn wsX7_end wsX5_clear := goodIn_r _ [46, 47, 73, 74] (by decide +kernel) (by decide +kernel)
set_option maxRecDepth 20000 in
theorem gX7_end_X5_clear : GoodIn wsX7_end (wsV RX7 209 RX5 yX5_clear wsX5_clear) := goodIn_app (goodIn_of _ (by decide +kernel)) ggX7_end_X5_clear
theorem dX7_end_0 : decode cX7_end 0 = .ok (.aload_n 0, 1) := by decide +kernel
theorem dX7_end_1 : decode cX7_end 1 = .ok (.getfield 10, 3) := by decide +kernel
theorem dX7_end_4 : decode cX7_end 4 = .ok (.iload_n 1, 1) := by decide +kernel
theorem dX7_end_5 : decode cX7_end 5 = .ok (.iload_n 2, 1) := by decide +kernel
theorem dX7_end_6 : decode cX7_end 6 = .ok (.invokevirtual 229, 3) := by decide +kernel
theorem dX7_end_9 : decode cX7_end 9 = .ok (.aload_n 0, 1) := by decide +kernel
theorem dX7_end_10 : decode cX7_end 10 = .ok (.getfield 26, 3) := by decide +kernel
theorem dX7_end_13 : decode cX7_end 13 = .ok (.iload_n 1, 1) := by decide +kernel
theorem dX7_end_14 : decode cX7_end 14 = .ok (.invokevirtual 230, 3) := by decide +kernel
theorem dX7_end_17 : decode cX7_end 17 = .ok (.aload_n 0, 1) := by decide +kernel
theorem dX7_end_18 : decode cX7_end 18 = .ok (.getfield 33, 3) := by decide +kernel
theorem dX7_end_21 : decode cX7_end 21 = .ok (.iload_n 1, 1) := by decide +kernel
theorem dX7_end_22 : decode cX7_end 22 = .ok (.invokevirtual 233, 3) := by decide +kernel
theorem dX7_end_25 : decode cX7_end 25 = .ok (.aload_n 0, 1) := by decide +kernel
theorem dX7_end_26 : decode cX7_end 26 = .ok (.getfield 40, 3) := by decide +kernel
theorem dX7_end_29 : decode cX7_end 29 = .ok (.iload_n 1, 1) := by decide +kernel
theorem dX7_end_30 : decode cX7_end 30 = .ok (.invokevirtual 234, 3) := by decide +kernel
theorem dX7_end_33 : decode cX7_end 33 = .ok (.aload_n 0, 1) := by decide +kernel
theorem dX7_end_34 : decode cX7_end 34 = .ok (.getfield 47, 3) := by decide +kernel
theorem dX7_end_37 : decode cX7_end 37 = .ok (.iload_n 1, 1) := by decide +kernel
theorem dX7_end_38 : decode cX7_end 38 = .ok (.invokevirtual 209, 3) := by decide +kernel
theorem dX7_end_41 : decode cX7_end 41 = .ok (.return_, 1) := by decide +kernel
set_option maxRecDepth 20000 in
theorem ggX7_drawWaits_X4_clear : GoodIn wsX7_drawWaits wsX4_clear := goodIn_r _ [9, 10, 11, 12, 13, 14, 70] (by decide +kernel) (by decide +kernel)
set_option maxRecDepth 20000 in
theorem gX7_drawWaits_X4_clear : GoodIn wsX7_drawWaits (wsV RX7 235 RX4 yX4_clear wsX4_clear) := goodIn_app (goodIn_of _ (by decide +kernel)) ggX7_drawWaits_X4_clear
set_option maxRecDepth 20000 in
theorem ggX7_drawWaits_X0_opened : GoodIn wsX7_drawWaits wsX0_opened := goodIn_r _ [19, 20, 71, 72, 73, 74] (by decide +kernel) (by decide +kernel)
set_option maxRecDepth 20000 in
theorem gX7_drawWaits_X0_opened : GoodIn wsX7_drawWaits (wsV RX7 133 RX0 yX0_opened wsX0_opened) := goodIn_app (goodIn_of _ (by decide +kernel)) ggX7_drawWaits_X0_opened
set_option maxRecDepth 20000 in
theorem ggX7_drawWaits_X5_has : GoodIn wsX7_drawWaits wsX5_has := goodIn_r _ [25, 26, 75, 76] (by decide +kernel) (by decide +kernel)
set_option maxRecDepth 20000 in
theorem gX7_drawWaits_X5_has : GoodIn wsX7_drawWaits (wsV RX7 162 RX5 yX5_has wsX5_has) := goodIn_app (goodIn_of _ (by decide +kernel)) ggX7_drawWaits_X5_has
set_option maxRecDepth 20000 in
theorem ggX7_drawWaits_X0_trace : GoodIn wsX7_drawWaits wsX0_trace := goodIn_r _ [30, 20, 31, 32, 71, 72, 73, 74] (by decide +kernel) (by decide +kernel)
set_option maxRecDepth 20000 in
theorem gX7_drawWaits_X0_trace : GoodIn wsX7_drawWaits (wsV RX7 215 RX0 yX0_trace wsX0_trace) := goodIn_app (goodIn_of _ (by decide +kernel)) ggX7_drawWaits_X0_trace
set_option maxRecDepth 20000 in
theorem ggX7_drawWaits_X0_line : GoodIn wsX7_drawWaits wsX0_line := goodIn_r _ [36, 31, 71, 72, 73, 74] (by decide +kernel) (by decide +kernel)
set_option maxRecDepth 20000 in
theorem gX7_drawWaits_X0_line : GoodIn wsX7_drawWaits (wsV RX7 218 RX0 yX0_line wsX0_line) := goodIn_app (goodIn_of _ (by decide +kernel)) ggX7_drawWaits_X0_line
set_option maxRecDepth 20000 in
theorem ggX7_drawWaits_X1_drawInTheWay : GoodIn wsX7_drawWaits wsX1_drawInTheWay := goodIn_r _ [41, 42, 43, 44, 45, 46, 24, 47, 48, 49, 50, 51, 52, 26, 53, 54, 55, 40, 56, 57, 58, 59, 60, 61, 8, 62, 10, 77, 78, 79, 80, 75, 76, 70] (by decide +kernel) (by decide +kernel)
set_option maxRecDepth 20000 in
theorem gX7_drawWaits_X1_drawInTheWay : GoodIn wsX7_drawWaits (wsV RX7 237 RX1 yX1_drawInTheWay wsX1_drawInTheWay) := goodIn_app (goodIn_of _ (by decide +kernel)) ggX7_drawWaits_X1_drawInTheWay
theorem dX7_drawWaits_0 : decode cX7_drawWaits 0 = .ok (.aload_n 0, 1) := by decide +kernel
theorem dX7_drawWaits_1 : decode cX7_drawWaits 1 = .ok (.getfield 54, 3) := by decide +kernel
theorem dX7_drawWaits_4 : decode cX7_drawWaits 4 = .ok (.invokevirtual 235, 3) := by decide +kernel
theorem dX7_drawWaits_7 : decode cX7_drawWaits 7 = .ok (.iconst 1, 1) := by decide +kernel
theorem dX7_drawWaits_8 : decode cX7_drawWaits 8 = .ok (.istore_n 1, 1) := by decide +kernel
theorem dX7_drawWaits_9 : decode cX7_drawWaits 9 = .ok (.iload_n 1, 1) := by decide +kernel
theorem dX7_drawWaits_10 : decode cX7_drawWaits 10 = .ok (.aload_n 0, 1) := by decide +kernel
theorem dX7_drawWaits_11 : decode cX7_drawWaits 11 = .ok (.getfield 10, 3) := by decide +kernel
theorem dX7_drawWaits_14 : decode cX7_drawWaits 14 = .ok (.invokevirtual 133, 3) := by decide +kernel
theorem dX7_drawWaits_17 : decode cX7_drawWaits 17 = .ok (.if_icmp .gt 51, 3) := by decide +kernel
theorem dX7_drawWaits_20 : decode cX7_drawWaits 20 = .ok (.aload_n 0, 1) := by decide +kernel
theorem dX7_drawWaits_21 : decode cX7_drawWaits 21 = .ok (.getfield 47, 3) := by decide +kernel
theorem dX7_drawWaits_24 : decode cX7_drawWaits 24 = .ok (.iload_n 1, 1) := by decide +kernel
theorem dX7_drawWaits_25 : decode cX7_drawWaits 25 = .ok (.invokevirtual 162, 3) := by decide +kernel
theorem dX7_drawWaits_28 : decode cX7_drawWaits 28 = .ok (.ifCond .eq 34, 3) := by decide +kernel
theorem dX7_drawWaits_31 : decode cX7_drawWaits 31 = .ok (.aload_n 0, 1) := by decide +kernel
theorem dX7_drawWaits_32 : decode cX7_drawWaits 32 = .ok (.getfield 10, 3) := by decide +kernel
theorem dX7_drawWaits_35 : decode cX7_drawWaits 35 = .ok (.iload_n 1, 1) := by decide +kernel
theorem dX7_drawWaits_36 : decode cX7_drawWaits 36 = .ok (.invokevirtual 215, 3) := by decide +kernel
theorem dX7_drawWaits_39 : decode cX7_drawWaits 39 = .ok (.aload_n 0, 1) := by decide +kernel
theorem dX7_drawWaits_40 : decode cX7_drawWaits 40 = .ok (.getfield 33, 3) := by decide +kernel
theorem dX7_drawWaits_43 : decode cX7_drawWaits 43 = .ok (.iload_n 1, 1) := by decide +kernel
theorem dX7_drawWaits_44 : decode cX7_drawWaits 44 = .ok (.aload_n 0, 1) := by decide +kernel
theorem dX7_drawWaits_45 : decode cX7_drawWaits 45 = .ok (.getfield 47, 3) := by decide +kernel
theorem dX7_drawWaits_48 : decode cX7_drawWaits 48 = .ok (.aload_n 0, 1) := by decide +kernel
theorem dX7_drawWaits_49 : decode cX7_drawWaits 49 = .ok (.getfield 10, 3) := by decide +kernel
theorem dX7_drawWaits_52 : decode cX7_drawWaits 52 = .ok (.invokevirtual 218, 3) := by decide +kernel
theorem dX7_drawWaits_55 : decode cX7_drawWaits 55 = .ok (.aload_n 0, 1) := by decide +kernel
theorem dX7_drawWaits_56 : decode cX7_drawWaits 56 = .ok (.getfield 54, 3) := by decide +kernel
theorem dX7_drawWaits_59 : decode cX7_drawWaits 59 = .ok (.invokevirtual 237, 3) := by decide +kernel
theorem dX7_drawWaits_62 : decode cX7_drawWaits 62 = .ok (.iinc 1 1, 3) := by decide +kernel
theorem dX7_drawWaits_65 : decode cX7_drawWaits 65 = .ok (.goto (-56), 3) := by decide +kernel
theorem dX7_drawWaits_68 : decode cX7_drawWaits 68 = .ok (.return_, 1) := by decide +kernel
theorem dX8_init_0 : decode cX8_init 0 = .ok (.aload_n 0, 1) := by decide +kernel
theorem dX8_init_1 : decode cX8_init 1 = .ok (.invokespecial 1, 3) := by decide +kernel
theorem dX8_init_4 : decode cX8_init 4 = .ok (.aload_n 0, 1) := by decide +kernel
theorem dX8_init_5 : decode cX8_init 5 = .ok (.sipush 520, 3) := by decide +kernel
theorem dX8_init_8 : decode cX8_init 8 = .ok (.newarray .int, 2) := by decide +kernel
theorem dX8_init_10 : decode cX8_init 10 = .ok (.putfield 7, 3) := by decide +kernel
theorem dX8_init_13 : decode cX8_init 13 = .ok (.aload_n 0, 1) := by decide +kernel
theorem dX8_init_14 : decode cX8_init 14 = .ok (.ldc 13, 2) := by decide +kernel
theorem dX8_init_16 : decode cX8_init 16 = .ok (.newarray .byte, 2) := by decide +kernel
theorem dX8_init_18 : decode cX8_init 18 = .ok (.putfield 14, 3) := by decide +kernel
theorem dX8_init_21 : decode cX8_init 21 = .ok (.aload_n 0, 1) := by decide +kernel
theorem dX8_init_22 : decode cX8_init 22 = .ok (.ldc 13, 2) := by decide +kernel
theorem dX8_init_24 : decode cX8_init 24 = .ok (.newarray .int, 2) := by decide +kernel
theorem dX8_init_26 : decode cX8_init 26 = .ok (.putfield 18, 3) := by decide +kernel
theorem dX8_init_29 : decode cX8_init 29 = .ok (.aload_n 0, 1) := by decide +kernel
theorem dX8_init_30 : decode cX8_init 30 = .ok (.ldc 13, 2) := by decide +kernel
theorem dX8_init_32 : decode cX8_init 32 = .ok (.newarray .byte, 2) := by decide +kernel
theorem dX8_init_34 : decode cX8_init 34 = .ok (.putfield 21, 3) := by decide +kernel
theorem dX8_init_37 : decode cX8_init 37 = .ok (.aload_n 0, 1) := by decide +kernel
theorem dX8_init_38 : decode cX8_init 38 = .ok (.sipush 151, 3) := by decide +kernel
theorem dX8_init_41 : decode cX8_init 41 = .ok (.newarray .int, 2) := by decide +kernel
theorem dX8_init_43 : decode cX8_init 43 = .ok (.putfield 24, 3) := by decide +kernel
theorem dX8_init_46 : decode cX8_init 46 = .ok (.aload_n 0, 1) := by decide +kernel
theorem dX8_init_47 : decode cX8_init 47 = .ok (.sipush 151, 3) := by decide +kernel
theorem dX8_init_50 : decode cX8_init 50 = .ok (.newarray .int, 2) := by decide +kernel
theorem dX8_init_52 : decode cX8_init 52 = .ok (.putfield 27, 3) := by decide +kernel
theorem dX8_init_55 : decode cX8_init 55 = .ok (.aload_n 0, 1) := by decide +kernel
theorem dX8_init_56 : decode cX8_init 56 = .ok (.sipush 151, 3) := by decide +kernel
theorem dX8_init_59 : decode cX8_init 59 = .ok (.newarray .int, 2) := by decide +kernel
theorem dX8_init_61 : decode cX8_init 61 = .ok (.putfield 30, 3) := by decide +kernel
theorem dX8_init_64 : decode cX8_init 64 = .ok (.aload_n 0, 1) := by decide +kernel
theorem dX8_init_65 : decode cX8_init 65 = .ok (.sipush 151, 3) := by decide +kernel
theorem dX8_init_68 : decode cX8_init 68 = .ok (.newarray .boolean, 2) := by decide +kernel
theorem dX8_init_70 : decode cX8_init 70 = .ok (.putfield 33, 3) := by decide +kernel
theorem dX8_init_73 : decode cX8_init 73 = .ok (.aload_n 0, 1) := by decide +kernel
theorem dX8_init_74 : decode cX8_init 74 = .ok (.sipush 520, 3) := by decide +kernel
theorem dX8_init_77 : decode cX8_init 77 = .ok (.newarray .int, 2) := by decide +kernel
theorem dX8_init_79 : decode cX8_init 79 = .ok (.putfield 37, 3) := by decide +kernel
theorem dX8_init_82 : decode cX8_init 82 = .ok (.aload_n 0, 1) := by decide +kernel
theorem dX8_init_83 : decode cX8_init 83 = .ok (.sipush 520, 3) := by decide +kernel
theorem dX8_init_86 : decode cX8_init 86 = .ok (.newarray .boolean, 2) := by decide +kernel
theorem dX8_init_88 : decode cX8_init 88 = .ok (.putfield 40, 3) := by decide +kernel
theorem dX8_init_91 : decode cX8_init 91 = .ok (.aload_n 0, 1) := by decide +kernel
theorem dX8_init_92 : decode cX8_init 92 = .ok (.ldc 43, 2) := by decide +kernel
theorem dX8_init_94 : decode cX8_init 94 = .ok (.newarray .byte, 2) := by decide +kernel
theorem dX8_init_96 : decode cX8_init 96 = .ok (.putfield 44, 3) := by decide +kernel
theorem dX8_init_99 : decode cX8_init 99 = .ok (.aload_n 0, 1) := by decide +kernel
theorem dX8_init_100 : decode cX8_init 100 = .ok (.ldc 43, 2) := by decide +kernel
theorem dX8_init_102 : decode cX8_init 102 = .ok (.newarray .int, 2) := by decide +kernel
theorem dX8_init_104 : decode cX8_init 104 = .ok (.putfield 47, 3) := by decide +kernel
theorem dX8_init_107 : decode cX8_init 107 = .ok (.aload_n 0, 1) := by decide +kernel
theorem dX8_init_108 : decode cX8_init 108 = .ok (.sipush 151, 3) := by decide +kernel
theorem dX8_init_111 : decode cX8_init 111 = .ok (.newarray .boolean, 2) := by decide +kernel
theorem dX8_init_113 : decode cX8_init 113 = .ok (.putfield 50, 3) := by decide +kernel
theorem dX8_init_116 : decode cX8_init 116 = .ok (.return_, 1) := by decide +kernel
theorem dX8_isActive_0 : decode cX8_isActive 0 = .ok (.iload_n 1, 1) := by decide +kernel
theorem dX8_isActive_1 : decode cX8_isActive 1 = .ok (.ifCond .le 24, 3) := by decide +kernel
theorem dX8_isActive_4 : decode cX8_isActive 4 = .ok (.iload_n 1, 1) := by decide +kernel
theorem dX8_isActive_5 : decode cX8_isActive 5 = .ok (.aload_n 0, 1) := by decide +kernel
theorem dX8_isActive_6 : decode cX8_isActive 6 = .ok (.getfield 53, 3) := by decide +kernel
theorem dX8_isActive_9 : decode cX8_isActive 9 = .ok (.if_icmp .gt 16, 3) := by decide +kernel
theorem dX8_isActive_12 : decode cX8_isActive 12 = .ok (.aload_n 0, 1) := by decide +kernel
theorem dX8_isActive_13 : decode cX8_isActive 13 = .ok (.getfield 27, 3) := by decide +kernel
theorem dX8_isActive_16 : decode cX8_isActive 16 = .ok (.iload_n 1, 1) := by decide +kernel
theorem dX8_isActive_17 : decode cX8_isActive 17 = .ok (.iaload, 1) := by decide +kernel
theorem dX8_isActive_18 : decode cX8_isActive 18 = .ok (.ifCond .ne 7, 3) := by decide +kernel
theorem dX8_isActive_21 : decode cX8_isActive 21 = .ok (.iconst 1, 1) := by decide +kernel
theorem dX8_isActive_22 : decode cX8_isActive 22 = .ok (.goto 4, 3) := by decide +kernel
theorem dX8_isActive_25 : decode cX8_isActive 25 = .ok (.iconst 0, 1) := by decide +kernel
theorem dX8_isActive_26 : decode cX8_isActive 26 = .ok (.ireturn, 1) := by decide +kernel
theorem dX8_find_0 : decode cX8_find 0 = .ok (.iconst 0, 1) := by decide +kernel
theorem dX8_find_1 : decode cX8_find 1 = .ok (.istore_n 2, 1) := by decide +kernel
theorem dX8_find_2 : decode cX8_find 2 = .ok (.iload_n 2, 1) := by decide +kernel
theorem dX8_find_3 : decode cX8_find 3 = .ok (.aload_n 0, 1) := by decide +kernel
theorem dX8_find_4 : decode cX8_find 4 = .ok (.getfield 57, 3) := by decide +kernel
theorem dX8_find_7 : decode cX8_find 7 = .ok (.if_icmp .ge 21, 3) := by decide +kernel
theorem dX8_find_10 : decode cX8_find 10 = .ok (.aload_n 0, 1) := by decide +kernel
theorem dX8_find_11 : decode cX8_find 11 = .ok (.getfield 7, 3) := by decide +kernel
theorem dX8_find_14 : decode cX8_find 14 = .ok (.iload_n 2, 1) := by decide +kernel
theorem dX8_find_15 : decode cX8_find 15 = .ok (.iaload, 1) := by decide +kernel
theorem dX8_find_16 : decode cX8_find 16 = .ok (.iload_n 1, 1) := by decide +kernel
theorem dX8_find_17 : decode cX8_find 17 = .ok (.if_icmp .ne 5, 3) := by decide +kernel
theorem dX8_find_20 : decode cX8_find 20 = .ok (.iload_n 2, 1) := by decide +kernel
theorem dX8_find_21 : decode cX8_find 21 = .ok (.ireturn, 1) := by decide +kernel
theorem dX8_find_22 : decode cX8_find 22 = .ok (.iinc 2 1, 3) := by decide +kernel
theorem dX8_find_25 : decode cX8_find 25 = .ok (.goto (-23), 3) := by decide +kernel
theorem dX8_find_28 : decode cX8_find 28 = .ok (.iconst (-1), 1) := by decide +kernel
theorem dX8_find_29 : decode cX8_find 29 = .ok (.ireturn, 1) := by decide +kernel
set_option maxRecDepth 20000 in
theorem ggX8_number_X8_find : GoodIn wsX8_number wsX8_find := goodIn_r _ [7, 2, 1, 8, 9, 10, 11, 12, 13, 14, 15, 16, 17, 18, 19, 20, 21, 22, 23] (by decide +kernel) (by decide +kernel)
set_option maxRecDepth 20000 in
theorem gX8_number_X8_find : GoodIn wsX8_number (wsV RX8 60 RX8 yX8_find wsX8_find) := goodIn_app (goodIn_of _ (by decide +kernel)) ggX8_number_X8_find
theorem dX8_number_0 : decode cX8_number 0 = .ok (.aload_n 0, 1) := by decide +kernel
theorem dX8_number_1 : decode cX8_number 1 = .ok (.iload_n 1, 1) := by decide +kernel
theorem dX8_number_2 : decode cX8_number 2 = .ok (.invokevirtual 60, 3) := by decide +kernel
theorem dX8_number_5 : decode cX8_number 5 = .ok (.istore_n 2, 1) := by decide +kernel
theorem dX8_number_6 : decode cX8_number 6 = .ok (.iload_n 2, 1) := by decide +kernel
theorem dX8_number_7 : decode cX8_number 7 = .ok (.iconst (-1), 1) := by decide +kernel
theorem dX8_number_8 : decode cX8_number 8 = .ok (.if_icmp .ne 30, 3) := by decide +kernel
theorem dX8_number_11 : decode cX8_number 11 = .ok (.aload_n 0, 1) := by decide +kernel
theorem dX8_number_12 : decode cX8_number 12 = .ok (.getfield 7, 3) := by decide +kernel
theorem dX8_number_15 : decode cX8_number 15 = .ok (.aload_n 0, 1) := by decide +kernel
theorem dX8_number_16 : decode cX8_number 16 = .ok (.getfield 57, 3) := by decide +kernel
theorem dX8_number_19 : decode cX8_number 19 = .ok (.iload_n 1, 1) := by decide +kernel
theorem dX8_number_20 : decode cX8_number 20 = .ok (.iastore, 1) := by decide +kernel
theorem dX8_number_21 : decode cX8_number 21 = .ok (.aload_n 0, 1) := by decide +kernel
theorem dX8_number_22 : decode cX8_number 22 = .ok (.dup, 1) := by decide +kernel
theorem dX8_number_23 : decode cX8_number 23 = .ok (.getfield 57, 3) := by decide +kernel
theorem dX8_number_26 : decode cX8_number 26 = .ok (.iconst 1, 1) := by decide +kernel
theorem dX8_number_27 : decode cX8_number 27 = .ok (.iadd, 1) := by decide +kernel
theorem dX8_number_28 : decode cX8_number 28 = .ok (.putfield 57, 3) := by decide +kernel
theorem dX8_number_31 : decode cX8_number 31 = .ok (.aload_n 0, 1) := by decide +kernel
theorem dX8_number_32 : decode cX8_number 32 = .ok (.getfield 57, 3) := by decide +kernel
theorem dX8_number_35 : decode cX8_number 35 = .ok (.iconst 1, 1) := by decide +kernel
theorem dX8_number_36 : decode cX8_number 36 = .ok (.isub, 1) := by decide +kernel
theorem dX8_number_37 : decode cX8_number 37 = .ok (.ireturn, 1) := by decide +kernel
theorem dX8_number_38 : decode cX8_number 38 = .ok (.iload_n 2, 1) := by decide +kernel
theorem dX8_number_39 : decode cX8_number 39 = .ok (.ireturn, 1) := by decide +kernel
theorem dX8_source_0 : decode cX8_source 0 = .ok (.iload_n 1, 1) := by decide +kernel
theorem dX8_source_1 : decode cX8_source 1 = .ok (.istore_n 3, 1) := by decide +kernel
theorem dX8_source_2 : decode cX8_source 2 = .ok (.iload_n 3, 1) := by decide +kernel
theorem dX8_source_3 : decode cX8_source 3 = .ok (.ifCond .eq 28, 3) := by decide +kernel
theorem dX8_source_6 : decode cX8_source 6 = .ok (.aload_n 0, 1) := by decide +kernel
theorem dX8_source_7 : decode cX8_source 7 = .ok (.getfield 14, 3) := by decide +kernel
theorem dX8_source_10 : decode cX8_source 10 = .ok (.sipush 520, 3) := by decide +kernel
theorem dX8_source_13 : decode cX8_source 13 = .ok (.iload_n 3, 1) := by decide +kernel
theorem dX8_source_14 : decode cX8_source 14 = .ok (.imul, 1) := by decide +kernel
theorem dX8_source_15 : decode cX8_source 15 = .ok (.iload_n 2, 1) := by decide +kernel
theorem dX8_source_16 : decode cX8_source 16 = .ok (.iadd, 1) := by decide +kernel
theorem dX8_source_17 : decode cX8_source 17 = .ok (.baload, 1) := by decide +kernel
theorem dX8_source_18 : decode cX8_source 18 = .ok (.ifCond .ne 13, 3) := by decide +kernel
theorem dX8_source_21 : decode cX8_source 21 = .ok (.aload_n 0, 1) := by decide +kernel
theorem dX8_source_22 : decode cX8_source 22 = .ok (.getfield 24, 3) := by decide +kernel
theorem dX8_source_25 : decode cX8_source 25 = .ok (.iload_n 3, 1) := by decide +kernel
theorem dX8_source_26 : decode cX8_source 26 = .ok (.iaload, 1) := by decide +kernel
theorem dX8_source_27 : decode cX8_source 27 = .ok (.istore_n 3, 1) := by decide +kernel
theorem dX8_source_28 : decode cX8_source 28 = .ok (.goto (-26), 3) := by decide +kernel
theorem dX8_source_31 : decode cX8_source 31 = .ok (.aload_n 0, 1) := by decide +kernel
theorem dX8_source_32 : decode cX8_source 32 = .ok (.getfield 14, 3) := by decide +kernel
theorem dX8_source_35 : decode cX8_source 35 = .ok (.sipush 520, 3) := by decide +kernel
theorem dX8_source_38 : decode cX8_source 38 = .ok (.iload_n 3, 1) := by decide +kernel
theorem dX8_source_39 : decode cX8_source 39 = .ok (.imul, 1) := by decide +kernel
theorem dX8_source_40 : decode cX8_source 40 = .ok (.iload_n 2, 1) := by decide +kernel
theorem dX8_source_41 : decode cX8_source 41 = .ok (.iadd, 1) := by decide +kernel
theorem dX8_source_42 : decode cX8_source 42 = .ok (.baload, 1) := by decide +kernel
theorem dX8_source_43 : decode cX8_source 43 = .ok (.iconst 1, 1) := by decide +kernel
theorem dX8_source_44 : decode cX8_source 44 = .ok (.if_icmp .ne 7, 3) := by decide +kernel
theorem dX8_source_47 : decode cX8_source 47 = .ok (.iload_n 3, 1) := by decide +kernel
theorem dX8_source_48 : decode cX8_source 48 = .ok (.goto 4, 3) := by decide +kernel
theorem dX8_source_51 : decode cX8_source 51 = .ok (.iconst (-1), 1) := by decide +kernel
theorem dX8_source_52 : decode cX8_source 52 = .ok (.ireturn, 1) := by decide +kernel
set_option maxRecDepth 20000 in
theorem ggX8_sees_X8_source : GoodIn wsX8_sees wsX8_source := goodIn_r _ [5, 6, 7, 8, 9, 10, 11, 12, 13, 14, 15, 16, 17, 18, 19, 20, 21, 22, 23] (by decide +kernel) (by decide +kernel)
set_option maxRecDepth 20000 in
theorem gX8_sees_X8_source : GoodIn wsX8_sees (wsV RX8 64 RX8 yX8_source wsX8_source) := goodIn_app (goodIn_of _ (by decide +kernel)) ggX8_sees_X8_source
theorem dX8_sees_0 : decode cX8_sees 0 = .ok (.aload_n 0, 1) := by decide +kernel
theorem dX8_sees_1 : decode cX8_sees 1 = .ok (.iload_n 1, 1) := by decide +kernel
theorem dX8_sees_2 : decode cX8_sees 2 = .ok (.iload_n 2, 1) := by decide +kernel
theorem dX8_sees_3 : decode cX8_sees 3 = .ok (.invokevirtual 64, 3) := by decide +kernel
theorem dX8_sees_6 : decode cX8_sees 6 = .ok (.iconst (-1), 1) := by decide +kernel
theorem dX8_sees_7 : decode cX8_sees 7 = .ok (.if_icmp .eq 7, 3) := by decide +kernel
theorem dX8_sees_10 : decode cX8_sees 10 = .ok (.iconst 1, 1) := by decide +kernel
theorem dX8_sees_11 : decode cX8_sees 11 = .ok (.goto 4, 3) := by decide +kernel
theorem dX8_sees_14 : decode cX8_sees 14 = .ok (.iconst 0, 1) := by decide +kernel
theorem dX8_sees_15 : decode cX8_sees 15 = .ok (.ireturn, 1) := by decide +kernel
theorem dX8_isAncestor_0 : decode cX8_isAncestor 0 = .ok (.iload_n 2, 1) := by decide +kernel
theorem dX8_isAncestor_1 : decode cX8_isAncestor 1 = .ok (.istore_n 3, 1) := by decide +kernel
theorem dX8_isAncestor_2 : decode cX8_isAncestor 2 = .ok (.iload_n 3, 1) := by decide +kernel
theorem dX8_isAncestor_3 : decode cX8_isAncestor 3 = .ok (.ifCond .eq 17, 3) := by decide +kernel
theorem dX8_isAncestor_6 : decode cX8_isAncestor 6 = .ok (.aload_n 0, 1) := by decide +kernel
theorem dX8_isAncestor_7 : decode cX8_isAncestor 7 = .ok (.getfield 24, 3) := by decide +kernel
theorem dX8_isAncestor_10 : decode cX8_isAncestor 10 = .ok (.iload_n 3, 1) := by decide +kernel
theorem dX8_isAncestor_11 : decode cX8_isAncestor 11 = .ok (.iaload, 1) := by decide +kernel
theorem dX8_isAncestor_12 : decode cX8_isAncestor 12 = .ok (.istore_n 3, 1) := by decide +kernel
theorem dX8_isAncestor_13 : decode cX8_isAncestor 13 = .ok (.iload_n 3, 1) := by decide +kernel
theorem dX8_isAncestor_14 : decode cX8_isAncestor 14 = .ok (.iload_n 1, 1) := by decide +kernel
theorem dX8_isAncestor_15 : decode cX8_isAncestor 15 = .ok (.if_icmp .ne (-13), 3) := by decide +kernel
theorem dX8_isAncestor_18 : decode cX8_isAncestor 18 = .ok (.iconst 1, 1) := by decide +kernel
theorem dX8_isAncestor_19 : decode cX8_isAncestor 19 = .ok (.ireturn, 1) := by decide +kernel
theorem dX8_isAncestor_20 : decode cX8_isAncestor 20 = .ok (.iconst 0, 1) := by decide +kernel
theorem dX8_isAncestor_21 : decode cX8_isAncestor 21 = .ok (.ireturn, 1) := by decide +kernel
set_option maxRecDepth 20000 in
theorem ggX8_isInWay_X8_isActive : GoodIn wsX8_isInWay wsX8_isActive := goodIn_r _ [6, 7, 8, 14, 15, 16, 17, 18, 19, 20, 21, 22, 23, 24, 25, 26, 27, 28, 29] (by decide +kernel) (by decide +kernel)
set_option maxRecDepth 20000 in
theorem gX8_isInWay_X8_isActive : GoodIn wsX8_isInWay (wsV RX8 68 RX8 yX8_isActive wsX8_isActive) := goodIn_app (goodIn_of _ (by decide +kernel)) ggX8_isInWay_X8_isActive
set_option maxRecDepth 20000 in
theorem ggX8_isInWay_X8_isAncestor : GoodIn wsX8_isInWay wsX8_isAncestor := goodIn_r _ [12, 13, 14, 15, 16, 17, 18, 19, 20, 21, 22, 23, 24, 25, 26, 27, 28, 29] (by decide +kernel) (by decide +kernel)
set_option maxRecDepth 20000 in
theorem gX8_isInWay_X8_isAncestor : GoodIn wsX8_isInWay (wsV RX8 72 RX8 yX8_isAncestor wsX8_isAncestor) := goodIn_app (goodIn_of _ (by decide +kernel)) ggX8_isInWay_X8_isAncestor
theorem dX8_isInWay_0 : decode cX8_isInWay 0 = .ok (.iload_n 1, 1) := by decide +kernel
theorem dX8_isInWay_1 : decode cX8_isInWay 1 = .ok (.iload_n 2, 1) := by decide +kernel
theorem dX8_isInWay_2 : decode cX8_isInWay 2 = .ok (.if_icmp .eq 49, 3) := by decide +kernel
theorem dX8_isInWay_5 : decode cX8_isInWay 5 = .ok (.aload_n 0, 1) := by decide +kernel
theorem dX8_isInWay_6 : decode cX8_isInWay 6 = .ok (.iload_n 1, 1) := by decide +kernel
theorem dX8_isInWay_7 : decode cX8_isInWay 7 = .ok (.invokevirtual 68, 3) := by decide +kernel
theorem dX8_isInWay_10 : decode cX8_isInWay 10 = .ok (.ifCond .eq 41, 3) := by decide +kernel
theorem dX8_isInWay_13 : decode cX8_isInWay 13 = .ok (.aload_n 0, 1) := by decide +kernel
theorem dX8_isInWay_14 : decode cX8_isInWay 14 = .ok (.iload_n 1, 1) := by decide +kernel
theorem dX8_isInWay_15 : decode cX8_isInWay 15 = .ok (.iload_n 2, 1) := by decide +kernel
theorem dX8_isInWay_16 : decode cX8_isInWay 16 = .ok (.invokevirtual 72, 3) := by decide +kernel
theorem dX8_isInWay_19 : decode cX8_isInWay 19 = .ok (.ifCond .ne 32, 3) := by decide +kernel
theorem dX8_isInWay_22 : decode cX8_isInWay 22 = .ok (.aload_n 0, 1) := by decide +kernel
theorem dX8_isInWay_23 : decode cX8_isInWay 23 = .ok (.getfield 21, 3) := by decide +kernel
theorem dX8_isInWay_26 : decode cX8_isInWay 26 = .ok (.sipush 520, 3) := by decide +kernel
theorem dX8_isInWay_29 : decode cX8_isInWay 29 = .ok (.iload_n 1, 1) := by decide +kernel
theorem dX8_isInWay_30 : decode cX8_isInWay 30 = .ok (.imul, 1) := by decide +kernel
theorem dX8_isInWay_31 : decode cX8_isInWay 31 = .ok (.iload_n 3, 1) := by decide +kernel
theorem dX8_isInWay_32 : decode cX8_isInWay 32 = .ok (.iadd, 1) := by decide +kernel
theorem dX8_isInWay_33 : decode cX8_isInWay 33 = .ok (.baload, 1) := by decide +kernel
theorem dX8_isInWay_34 : decode cX8_isInWay 34 = .ok (.iload 4, 2) := by decide +kernel
theorem dX8_isInWay_36 : decode cX8_isInWay 36 = .ok (.ifCond .eq 7, 3) := by decide +kernel
theorem dX8_isInWay_39 : decode cX8_isInWay 39 = .ok (.iconst 1, 1) := by decide +kernel
theorem dX8_isInWay_40 : decode cX8_isInWay 40 = .ok (.goto 4, 3) := by decide +kernel
theorem dX8_isInWay_43 : decode cX8_isInWay 43 = .ok (.iconst 2, 1) := by decide +kernel
theorem dX8_isInWay_44 : decode cX8_isInWay 44 = .ok (.if_icmp .lt 7, 3) := by decide +kernel
theorem dX8_isInWay_47 : decode cX8_isInWay 47 = .ok (.iconst 1, 1) := by decide +kernel
theorem dX8_isInWay_48 : decode cX8_isInWay 48 = .ok (.goto 4, 3) := by decide +kernel
theorem dX8_isInWay_51 : decode cX8_isInWay 51 = .ok (.iconst 0, 1) := by decide +kernel
theorem dX8_isInWay_52 : decode cX8_isInWay 52 = .ok (.ireturn, 1) := by decide +kernel
set_option maxRecDepth 20000 in
theorem ggX8_first_X8_isInWay : GoodIn wsX8_first wsX8_isInWay := goodIn_r _ [6, 7, 8, 9, 10, 5, 11, 1, 12, 13, 14, 15, 16, 17, 18, 19, 20, 21, 22, 23, 24, 25, 26, 27, 28, 29, 30, 31, 32, 33] (by decide +kernel) (by decide +kernel)
set_option maxRecDepth 20000 in
theorem gX8_first_X8_isInWay : GoodIn wsX8_first (wsV RX8 76 RX8 yX8_isInWay wsX8_isInWay) := goodIn_app (goodIn_of _ (by decide +kernel)) ggX8_first_X8_isInWay
theorem dX8_first_0 : decode cX8_first 0 = .ok (.iconst 1, 1) := by decide +kernel
theorem dX8_first_1 : decode cX8_first 1 = .ok (.istore 4, 2) := by decide +kernel
theorem dX8_first_3 : decode cX8_first 3 = .ok (.iload 4, 2) := by decide +kernel
theorem dX8_first_5 : decode cX8_first 5 = .ok (.aload_n 0, 1) := by decide +kernel
theorem dX8_first_6 : decode cX8_first 6 = .ok (.getfield 53, 3) := by decide +kernel
theorem dX8_first_9 : decode cX8_first 9 = .ok (.if_icmp .gt 29, 3) := by decide +kernel
theorem dX8_first_12 : decode cX8_first 12 = .ok (.iload_n 2, 1) := by decide +kernel
theorem dX8_first_13 : decode cX8_first 13 = .ok (.iconst (-1), 1) := by decide +kernel
theorem dX8_first_14 : decode cX8_first 14 = .ok (.if_icmp .eq 24, 3) := by decide +kernel
theorem dX8_first_17 : decode cX8_first 17 = .ok (.aload_n 0, 1) := by decide +kernel
theorem dX8_first_18 : decode cX8_first 18 = .ok (.iload 4, 2) := by decide +kernel
theorem dX8_first_20 : decode cX8_first 20 = .ok (.iload_n 1, 1) := by decide +kernel
theorem dX8_first_21 : decode cX8_first 21 = .ok (.iload_n 2, 1) := by decide +kernel
theorem dX8_first_22 : decode cX8_first 22 = .ok (.iload_n 3, 1) := by decide +kernel
theorem dX8_first_23 : decode cX8_first 23 = .ok (.invokevirtual 76, 3) := by decide +kernel
theorem dX8_first_26 : decode cX8_first 26 = .ok (.ifCond .eq 6, 3) := by decide +kernel
theorem dX8_first_29 : decode cX8_first 29 = .ok (.iload 4, 2) := by decide +kernel
theorem dX8_first_31 : decode cX8_first 31 = .ok (.ireturn, 1) := by decide +kernel
theorem dX8_first_32 : decode cX8_first 32 = .ok (.iinc 4 1, 3) := by decide +kernel
theorem dX8_first_35 : decode cX8_first 35 = .ok (.goto (-32), 3) := by decide +kernel
theorem dX8_first_38 : decode cX8_first 38 = .ok (.iconst 0, 1) := by decide +kernel
theorem dX8_first_39 : decode cX8_first 39 = .ok (.ireturn, 1) := by decide +kernel
set_option maxRecDepth 20000 in
theorem ggX8_mayDo_X8_first : GoodIn wsX8_mayDo wsX8_first := goodIn_r _ [8, 9, 10, 11, 12, 7, 13, 3, 14, 15, 16, 17, 18, 19, 20, 21, 22, 23, 24, 25, 26, 27, 28, 29, 30, 31, 32, 33, 34, 35, 36, 37, 38, 39] (by decide +kernel) (by decide +kernel)
set_option maxRecDepth 20000 in
theorem gX8_mayDo_X8_first : GoodIn wsX8_mayDo (wsV RX8 80 RX8 yX8_first wsX8_first) := goodIn_app (goodIn_of _ (by decide +kernel)) ggX8_mayDo_X8_first
theorem dX8_mayDo_0 : decode cX8_mayDo 0 = .ok (.aload_n 0, 1) := by decide +kernel
theorem dX8_mayDo_1 : decode cX8_mayDo 1 = .ok (.iload_n 1, 1) := by decide +kernel
theorem dX8_mayDo_2 : decode cX8_mayDo 2 = .ok (.iload_n 2, 1) := by decide +kernel
theorem dX8_mayDo_3 : decode cX8_mayDo 3 = .ok (.iload_n 3, 1) := by decide +kernel
theorem dX8_mayDo_4 : decode cX8_mayDo 4 = .ok (.invokevirtual 80, 3) := by decide +kernel
theorem dX8_mayDo_7 : decode cX8_mayDo 7 = .ok (.ifCond .ne 7, 3) := by decide +kernel
theorem dX8_mayDo_10 : decode cX8_mayDo 10 = .ok (.iconst 1, 1) := by decide +kernel
theorem dX8_mayDo_11 : decode cX8_mayDo 11 = .ok (.goto 4, 3) := by decide +kernel
theorem dX8_mayDo_14 : decode cX8_mayDo 14 = .ok (.iconst 0, 1) := by decide +kernel
theorem dX8_mayDo_15 : decode cX8_mayDo 15 = .ok (.istore 4, 2) := by decide +kernel
theorem dX8_mayDo_17 : decode cX8_mayDo 17 = .ok (.aload_n 0, 1) := by decide +kernel
theorem dX8_mayDo_18 : decode cX8_mayDo 18 = .ok (.getfield 30, 3) := by decide +kernel
theorem dX8_mayDo_21 : decode cX8_mayDo 21 = .ok (.iload_n 1, 1) := by decide +kernel
theorem dX8_mayDo_22 : decode cX8_mayDo 22 = .ok (.iload 4, 2) := by decide +kernel
theorem dX8_mayDo_24 : decode cX8_mayDo 24 = .ok (.ifCond .eq 7, 3) := by decide +kernel
theorem dX8_mayDo_27 : decode cX8_mayDo 27 = .ok (.iconst (-1), 1) := by decide +kernel
theorem dX8_mayDo_28 : decode cX8_mayDo 28 = .ok (.goto 4, 3) := by decide +kernel
theorem dX8_mayDo_31 : decode cX8_mayDo 31 = .ok (.iload_n 2, 1) := by decide +kernel
theorem dX8_mayDo_32 : decode cX8_mayDo 32 = .ok (.iastore, 1) := by decide +kernel
theorem dX8_mayDo_33 : decode cX8_mayDo 33 = .ok (.aload_n 0, 1) := by decide +kernel
theorem dX8_mayDo_34 : decode cX8_mayDo 34 = .ok (.getfield 33, 3) := by decide +kernel
theorem dX8_mayDo_37 : decode cX8_mayDo 37 = .ok (.iload_n 1, 1) := by decide +kernel
theorem dX8_mayDo_38 : decode cX8_mayDo 38 = .ok (.iload_n 3, 1) := by decide +kernel
theorem dX8_mayDo_39 : decode cX8_mayDo 39 = .ok (.bastore, 1) := by decide +kernel
theorem dX8_mayDo_40 : decode cX8_mayDo 40 = .ok (.iload 4, 2) := by decide +kernel
theorem dX8_mayDo_42 : decode cX8_mayDo 42 = .ok (.ifCond .eq 43, 3) := by decide +kernel
theorem dX8_mayDo_45 : decode cX8_mayDo 45 = .ok (.sipush 520, 3) := by decide +kernel
theorem dX8_mayDo_48 : decode cX8_mayDo 48 = .ok (.iload_n 1, 1) := by decide +kernel
theorem dX8_mayDo_49 : decode cX8_mayDo 49 = .ok (.imul, 1) := by decide +kernel
theorem dX8_mayDo_50 : decode cX8_mayDo 50 = .ok (.iload_n 2, 1) := by decide +kernel
theorem dX8_mayDo_51 : decode cX8_mayDo 51 = .ok (.iadd, 1) := by decide +kernel
theorem dX8_mayDo_52 : decode cX8_mayDo 52 = .ok (.istore 5, 2) := by decide +kernel
theorem dX8_mayDo_54 : decode cX8_mayDo 54 = .ok (.aload_n 0, 1) := by decide +kernel
theorem dX8_mayDo_55 : decode cX8_mayDo 55 = .ok (.getfield 21, 3) := by decide +kernel
theorem dX8_mayDo_58 : decode cX8_mayDo 58 = .ok (.iload 5, 2) := by decide +kernel
theorem dX8_mayDo_60 : decode cX8_mayDo 60 = .ok (.iload_n 3, 1) := by decide +kernel
theorem dX8_mayDo_61 : decode cX8_mayDo 61 = .ok (.ifCond .eq 7, 3) := by decide +kernel
theorem dX8_mayDo_64 : decode cX8_mayDo 64 = .ok (.iconst 2, 1) := by decide +kernel
theorem dX8_mayDo_65 : decode cX8_mayDo 65 = .ok (.goto 19, 3) := by decide +kernel
theorem dX8_mayDo_68 : decode cX8_mayDo 68 = .ok (.aload_n 0, 1) := by decide +kernel
theorem dX8_mayDo_69 : decode cX8_mayDo 69 = .ok (.getfield 21, 3) := by decide +kernel
theorem dX8_mayDo_72 : decode cX8_mayDo 72 = .ok (.iload 5, 2) := by decide +kernel
theorem dX8_mayDo_74 : decode cX8_mayDo 74 = .ok (.baload, 1) := by decide +kernel
theorem dX8_mayDo_75 : decode cX8_mayDo 75 = .ok (.iconst 2, 1) := by decide +kernel
theorem dX8_mayDo_76 : decode cX8_mayDo 76 = .ok (.if_icmp .ne 7, 3) := by decide +kernel
theorem dX8_mayDo_79 : decode cX8_mayDo 79 = .ok (.iconst 2, 1) := by decide +kernel
theorem dX8_mayDo_80 : decode cX8_mayDo 80 = .ok (.goto 4, 3) := by decide +kernel
theorem dX8_mayDo_83 : decode cX8_mayDo 83 = .ok (.iconst 1, 1) := by decide +kernel
theorem dX8_mayDo_84 : decode cX8_mayDo 84 = .ok (.bastore, 1) := by decide +kernel
theorem dX8_mayDo_85 : decode cX8_mayDo 85 = .ok (.iload 4, 2) := by decide +kernel
theorem dX8_mayDo_87 : decode cX8_mayDo 87 = .ok (.ireturn, 1) := by decide +kernel
set_option maxRecDepth 20000 in
theorem ggX8_open_X8_isActive : GoodIn wsX8_open wsX8_isActive := goodIn_r _ [9, 1, 3, 10, 11, 12, 13, 14, 15, 16, 17, 18, 19, 20, 21, 22, 23, 24, 25] (by decide +kernel) (by decide +kernel)
set_option maxRecDepth 20000 in
theorem gX8_open_X8_isActive : GoodIn wsX8_open (wsV RX8 68 RX8 yX8_isActive wsX8_isActive) := goodIn_app (goodIn_of _ (by decide +kernel)) ggX8_open_X8_isActive
theorem dX8_open_0 : decode cX8_open 0 = .ok (.iload_n 1, 1) := by decide +kernel
theorem dX8_open_1 : decode cX8_open 1 = .ok (.ifCond .eq 11, 3) := by decide +kernel
theorem dX8_open_4 : decode cX8_open 4 = .ok (.aload_n 0, 1) := by decide +kernel
theorem dX8_open_5 : decode cX8_open 5 = .ok (.iload_n 1, 1) := by decide +kernel
theorem dX8_open_6 : decode cX8_open 6 = .ok (.invokevirtual 68, 3) := by decide +kernel
theorem dX8_open_9 : decode cX8_open 9 = .ok (.ifCond .eq 13, 3) := by decide +kernel
theorem dX8_open_12 : decode cX8_open 12 = .ok (.aload_n 0, 1) := by decide +kernel
theorem dX8_open_13 : decode cX8_open 13 = .ok (.getfield 53, 3) := by decide +kernel
theorem dX8_open_16 : decode cX8_open 16 = .ok (.sipush 150, 3) := by decide +kernel
theorem dX8_open_19 : decode cX8_open 19 = .ok (.if_icmp .ne 5, 3) := by decide +kernel
theorem dX8_open_22 : decode cX8_open 22 = .ok (.iconst (-1), 1) := by decide +kernel
theorem dX8_open_23 : decode cX8_open 23 = .ok (.ireturn, 1) := by decide +kernel
theorem dX8_open_24 : decode cX8_open 24 = .ok (.aload_n 0, 1) := by decide +kernel
theorem dX8_open_25 : decode cX8_open 25 = .ok (.dup, 1) := by decide +kernel
theorem dX8_open_26 : decode cX8_open 26 = .ok (.getfield 53, 3) := by decide +kernel
theorem dX8_open_29 : decode cX8_open 29 = .ok (.iconst 1, 1) := by decide +kernel
theorem dX8_open_30 : decode cX8_open 30 = .ok (.iadd, 1) := by decide +kernel
theorem dX8_open_31 : decode cX8_open 31 = .ok (.putfield 53, 3) := by decide +kernel
theorem dX8_open_34 : decode cX8_open 34 = .ok (.aload_n 0, 1) := by decide +kernel
theorem dX8_open_35 : decode cX8_open 35 = .ok (.getfield 24, 3) := by decide +kernel
theorem dX8_open_38 : decode cX8_open 38 = .ok (.aload_n 0, 1) := by decide +kernel
theorem dX8_open_39 : decode cX8_open 39 = .ok (.getfield 53, 3) := by decide +kernel
theorem dX8_open_42 : decode cX8_open 42 = .ok (.iload_n 1, 1) := by decide +kernel
theorem dX8_open_43 : decode cX8_open 43 = .ok (.iastore, 1) := by decide +kernel
theorem dX8_open_44 : decode cX8_open 44 = .ok (.aload_n 0, 1) := by decide +kernel
theorem dX8_open_45 : decode cX8_open 45 = .ok (.getfield 27, 3) := by decide +kernel
theorem dX8_open_48 : decode cX8_open 48 = .ok (.aload_n 0, 1) := by decide +kernel
theorem dX8_open_49 : decode cX8_open 49 = .ok (.getfield 53, 3) := by decide +kernel
theorem dX8_open_52 : decode cX8_open 52 = .ok (.iconst 0, 1) := by decide +kernel
theorem dX8_open_53 : decode cX8_open 53 = .ok (.iastore, 1) := by decide +kernel
theorem dX8_open_54 : decode cX8_open 54 = .ok (.aload_n 0, 1) := by decide +kernel
theorem dX8_open_55 : decode cX8_open 55 = .ok (.getfield 30, 3) := by decide +kernel
theorem dX8_open_58 : decode cX8_open 58 = .ok (.aload_n 0, 1) := by decide +kernel
theorem dX8_open_59 : decode cX8_open 59 = .ok (.getfield 53, 3) := by decide +kernel
theorem dX8_open_62 : decode cX8_open 62 = .ok (.iconst (-1), 1) := by decide +kernel
theorem dX8_open_63 : decode cX8_open 63 = .ok (.iastore, 1) := by decide +kernel
theorem dX8_open_64 : decode cX8_open 64 = .ok (.aload_n 0, 1) := by decide +kernel
theorem dX8_open_65 : decode cX8_open 65 = .ok (.getfield 53, 3) := by decide +kernel
theorem dX8_open_68 : decode cX8_open 68 = .ok (.ireturn, 1) := by decide +kernel
set_option maxRecDepth 20000 in
theorem ggX8_get_X8_find : GoodIn wsX8_get wsX8_find := goodIn_r _ [10, 11, 12, 47, 48, 49, 50, 51, 52, 53, 54, 55, 56, 57, 58, 59, 60, 61, 62] (by decide +kernel) (by decide +kernel)
set_option maxRecDepth 20000 in
theorem gX8_get_X8_find : GoodIn wsX8_get (wsV RX8 60 RX8 yX8_find wsX8_find) := goodIn_app (goodIn_of _ (by decide +kernel)) ggX8_get_X8_find
set_option maxRecDepth 20000 in
theorem ggX8_get_X8_isActive : GoodIn wsX8_get wsX8_isActive := goodIn_r _ [16, 17, 18, 47, 48, 49, 50, 51, 52, 53, 54, 55, 56, 57, 58, 59, 60, 61, 62] (by decide +kernel) (by decide +kernel)
set_option maxRecDepth 20000 in
theorem gX8_get_X8_isActive : GoodIn wsX8_get (wsV RX8 68 RX8 yX8_isActive wsX8_isActive) := goodIn_app (goodIn_of _ (by decide +kernel)) ggX8_get_X8_isActive
set_option maxRecDepth 20000 in
theorem ggX8_get_X8_number : GoodIn wsX8_get wsX8_number := goodIn_r _ [22, 12, 11, 6, 7, 8, 9, 10, 47, 48, 49, 50, 51, 52, 53, 54, 55, 56, 57, 58, 59, 60, 61, 62] (by decide +kernel) (by decide +kernel)
set_option maxRecDepth 20000 in
theorem gX8_get_X8_number : GoodIn wsX8_get (wsV RX8 88 RX8 yX8_number wsX8_number) := goodIn_app (goodIn_of _ (by decide +kernel)) ggX8_get_X8_number
set_option maxRecDepth 20000 in
theorem ggX8_get_X8_mayDo : GoodIn wsX8_get wsX8_mayDo := goodIn_r _ [26, 27, 28, 29, 30, 31, 32, 9, 33, 17, 34, 35, 36, 37, 13, 14, 15, 16, 18, 38, 39, 40, 41, 42, 47, 48, 49, 50, 51, 52, 53, 54, 55, 56, 57, 58, 59, 60, 61, 62] (by decide +kernel) (by decide +kernel)
set_option maxRecDepth 20000 in
theorem gX8_get_X8_mayDo : GoodIn wsX8_get (wsV RX8 91 RX8 yX8_mayDo wsX8_mayDo) := goodIn_app (goodIn_of _ (by decide +kernel)) ggX8_get_X8_mayDo
set_option maxRecDepth 20000 in
theorem ggX8_get_X8_source : GoodIn wsX8_get wsX8_source := goodIn_r _ [46, 1, 42, 47, 48, 49, 50, 51, 52, 53, 54, 55, 56, 57, 58, 59, 60, 61, 62] (by decide +kernel) (by decide +kernel)
set_option maxRecDepth 20000 in
theorem gX8_get_X8_source : GoodIn wsX8_get (wsV RX8 64 RX8 yX8_source wsX8_source) := goodIn_app (goodIn_of _ (by decide +kernel)) ggX8_get_X8_source
theorem dX8_get_0 : decode cX8_get 0 = .ok (.iload_n 1, 1) := by decide +kernel
theorem dX8_get_1 : decode cX8_get 1 = .ok (.ifCond .ne 38, 3) := by decide +kernel
theorem dX8_get_4 : decode cX8_get 4 = .ok (.aload_n 0, 1) := by decide +kernel
theorem dX8_get_5 : decode cX8_get 5 = .ok (.iload_n 2, 1) := by decide +kernel
theorem dX8_get_6 : decode cX8_get 6 = .ok (.invokevirtual 60, 3) := by decide +kernel
theorem dX8_get_9 : decode cX8_get 9 = .ok (.istore_n 3, 1) := by decide +kernel
theorem dX8_get_10 : decode cX8_get 10 = .ok (.iload_n 3, 1) := by decide +kernel
theorem dX8_get_11 : decode cX8_get 11 = .ok (.iconst (-1), 1) := by decide +kernel
theorem dX8_get_12 : decode cX8_get 12 = .ok (.if_icmp .eq 13, 3) := by decide +kernel
theorem dX8_get_15 : decode cX8_get 15 = .ok (.aload_n 0, 1) := by decide +kernel
theorem dX8_get_16 : decode cX8_get 16 = .ok (.getfield 14, 3) := by decide +kernel
theorem dX8_get_19 : decode cX8_get 19 = .ok (.iload_n 3, 1) := by decide +kernel
theorem dX8_get_20 : decode cX8_get 20 = .ok (.baload, 1) := by decide +kernel
theorem dX8_get_21 : decode cX8_get 21 = .ok (.iconst 1, 1) := by decide +kernel
theorem dX8_get_22 : decode cX8_get 22 = .ok (.if_icmp .eq 9, 3) := by decide +kernel
theorem dX8_get_25 : decode cX8_get 25 = .ok (.ldc2_w 84, 3) := by decide +kernel
theorem dX8_get_28 : decode cX8_get 28 = .ok (.goto 10, 3) := by decide +kernel
theorem dX8_get_31 : decode cX8_get 31 = .ok (.aload_n 0, 1) := by decide +kernel
theorem dX8_get_32 : decode cX8_get 32 = .ok (.getfield 18, 3) := by decide +kernel
theorem dX8_get_35 : decode cX8_get 35 = .ok (.iload_n 3, 1) := by decide +kernel
theorem dX8_get_36 : decode cX8_get 36 = .ok (.iaload, 1) := by decide +kernel
theorem dX8_get_37 : decode cX8_get 37 = .ok (.i2l, 1) := by decide +kernel
theorem dX8_get_38 : decode cX8_get 38 = .ok (.lreturn, 1) := by decide +kernel
theorem dX8_get_39 : decode cX8_get 39 = .ok (.aload_n 0, 1) := by decide +kernel
theorem dX8_get_40 : decode cX8_get 40 = .ok (.iload_n 1, 1) := by decide +kernel
theorem dX8_get_41 : decode cX8_get 41 = .ok (.invokevirtual 68, 3) := by decide +kernel
theorem dX8_get_44 : decode cX8_get 44 = .ok (.ifCond .ne 7, 3) := by decide +kernel
theorem dX8_get_47 : decode cX8_get 47 = .ok (.ldc2_w 86, 3) := by decide +kernel
theorem dX8_get_50 : decode cX8_get 50 = .ok (.lreturn, 1) := by decide +kernel
theorem dX8_get_51 : decode cX8_get 51 = .ok (.aload_n 0, 1) := by decide +kernel
theorem dX8_get_52 : decode cX8_get 52 = .ok (.iload_n 2, 1) := by decide +kernel
theorem dX8_get_53 : decode cX8_get 53 = .ok (.invokevirtual 88, 3) := by decide +kernel
theorem dX8_get_56 : decode cX8_get 56 = .ok (.istore_n 3, 1) := by decide +kernel
theorem dX8_get_57 : decode cX8_get 57 = .ok (.aload_n 0, 1) := by decide +kernel
theorem dX8_get_58 : decode cX8_get 58 = .ok (.iload_n 1, 1) := by decide +kernel
theorem dX8_get_59 : decode cX8_get 59 = .ok (.iload_n 3, 1) := by decide +kernel
theorem dX8_get_60 : decode cX8_get 60 = .ok (.iconst 0, 1) := by decide +kernel
theorem dX8_get_61 : decode cX8_get 61 = .ok (.invokevirtual 91, 3) := by decide +kernel
theorem dX8_get_64 : decode cX8_get 64 = .ok (.ifCond .ne 7, 3) := by decide +kernel
theorem dX8_get_67 : decode cX8_get 67 = .ok (.ldc2_w 95, 3) := by decide +kernel
theorem dX8_get_70 : decode cX8_get 70 = .ok (.lreturn, 1) := by decide +kernel
theorem dX8_get_71 : decode cX8_get 71 = .ok (.aload_n 0, 1) := by decide +kernel
theorem dX8_get_72 : decode cX8_get 72 = .ok (.iload_n 1, 1) := by decide +kernel
theorem dX8_get_73 : decode cX8_get 73 = .ok (.iload_n 3, 1) := by decide +kernel
theorem dX8_get_74 : decode cX8_get 74 = .ok (.invokevirtual 64, 3) := by decide +kernel
theorem dX8_get_77 : decode cX8_get 77 = .ok (.istore 4, 2) := by decide +kernel
theorem dX8_get_79 : decode cX8_get 79 = .ok (.iload 4, 2) := by decide +kernel
theorem dX8_get_81 : decode cX8_get 81 = .ok (.iconst (-1), 1) := by decide +kernel
theorem dX8_get_82 : decode cX8_get 82 = .ok (.if_icmp .ne 9, 3) := by decide +kernel
theorem dX8_get_85 : decode cX8_get 85 = .ok (.ldc2_w 84, 3) := by decide +kernel
theorem dX8_get_88 : decode cX8_get 88 = .ok (.goto 17, 3) := by decide +kernel
theorem dX8_get_91 : decode cX8_get 91 = .ok (.aload_n 0, 1) := by decide +kernel
theorem dX8_get_92 : decode cX8_get 92 = .ok (.getfield 18, 3) := by decide +kernel
theorem dX8_get_95 : decode cX8_get 95 = .ok (.sipush 520, 3) := by decide +kernel
theorem dX8_get_98 : decode cX8_get 98 = .ok (.iload 4, 2) := by decide +kernel
theorem dX8_get_100 : decode cX8_get 100 = .ok (.imul, 1) := by decide +kernel
theorem dX8_get_101 : decode cX8_get 101 = .ok (.iload_n 3, 1) := by decide +kernel
theorem dX8_get_102 : decode cX8_get 102 = .ok (.iadd, 1) := by decide +kernel
theorem dX8_get_103 : decode cX8_get 103 = .ok (.iaload, 1) := by decide +kernel
theorem dX8_get_104 : decode cX8_get 104 = .ok (.i2l, 1) := by decide +kernel
theorem dX8_get_105 : decode cX8_get 105 = .ok (.lreturn, 1) := by decide +kernel
set_option maxRecDepth 20000 in
theorem ggX8_put_X8_isActive : GoodIn wsX8_put wsX8_isActive := goodIn_r _ [7, 8, 9, 48, 49, 50, 51, 52, 53, 54, 55, 56, 57, 58, 59, 60, 61, 62, 63] (by decide +kernel) (by decide +kernel)
set_option maxRecDepth 20000 in
theorem gX8_put_X8_isActive : GoodIn wsX8_put (wsV RX8 68 RX8 yX8_isActive wsX8_isActive) := goodIn_app (goodIn_of _ (by decide +kernel)) ggX8_put_X8_isActive
set_option maxRecDepth 20000 in
theorem ggX8_put_X8_number : GoodIn wsX8_put wsX8_number := goodIn_r _ [13, 14, 15, 16, 17, 18, 6, 19, 48, 49, 50, 51, 52, 53, 54, 55, 56, 57, 58, 59, 60, 61, 62, 63] (by decide +kernel) (by decide +kernel)
set_option maxRecDepth 20000 in
theorem gX8_put_X8_number : GoodIn wsX8_put (wsV RX8 88 RX8 yX8_number wsX8_number) := goodIn_app (goodIn_of _ (by decide +kernel)) ggX8_put_X8_number
set_option maxRecDepth 20000 in
theorem ggX8_put_X8_mayDo : GoodIn wsX8_put wsX8_mayDo := goodIn_r _ [23, 24, 25, 26, 27, 28, 29, 6, 30, 8, 31, 32, 33, 34, 3, 4, 5, 7, 9, 35, 36, 37, 38, 39, 48, 49, 50, 51, 52, 53, 54, 55, 56, 57, 58, 59, 60, 61, 62, 63] (by decide +kernel) (by decide +kernel)
set_option maxRecDepth 20000 in
theorem gX8_put_X8_mayDo : GoodIn wsX8_put (wsV RX8 91 RX8 yX8_mayDo wsX8_mayDo) := goodIn_app (goodIn_of _ (by decide +kernel)) ggX8_put_X8_mayDo
set_option maxRecDepth 20000 in
theorem ggX8_put_X8_sees : GoodIn wsX8_put wsX8_sees := goodIn_r _ [43, 44, 45, 46, 6, 47, 1, 39, 48, 49, 50, 51, 52, 53, 54, 55, 56, 57, 58, 59, 60, 61, 62, 63] (by decide +kernel) (by decide +kernel)
set_option maxRecDepth 20000 in
theorem gX8_put_X8_sees : GoodIn wsX8_put (wsV RX8 97 RX8 yX8_sees wsX8_sees) := goodIn_app (goodIn_of _ (by decide +kernel)) ggX8_put_X8_sees
theorem dX8_put_0 : decode cX8_put 0 = .ok (.aload_n 0, 1) := by decide +kernel
theorem dX8_put_1 : decode cX8_put 1 = .ok (.iload_n 1, 1) := by decide +kernel
theorem dX8_put_2 : decode cX8_put 2 = .ok (.invokevirtual 68, 3) := by decide +kernel
theorem dX8_put_5 : decode cX8_put 5 = .ok (.ifCond .ne 5, 3) := by decide +kernel
theorem dX8_put_8 : decode cX8_put 8 = .ok (.iconst (-1), 1) := by decide +kernel
theorem dX8_put_9 : decode cX8_put 9 = .ok (.ireturn, 1) := by decide +kernel
theorem dX8_put_10 : decode cX8_put 10 = .ok (.aload_n 0, 1) := by decide +kernel
theorem dX8_put_11 : decode cX8_put 11 = .ok (.iload_n 2, 1) := by decide +kernel
theorem dX8_put_12 : decode cX8_put 12 = .ok (.invokevirtual 88, 3) := by decide +kernel
theorem dX8_put_15 : decode cX8_put 15 = .ok (.istore 4, 2) := by decide +kernel
theorem dX8_put_17 : decode cX8_put 17 = .ok (.aload_n 0, 1) := by decide +kernel
theorem dX8_put_18 : decode cX8_put 18 = .ok (.iload_n 1, 1) := by decide +kernel
theorem dX8_put_19 : decode cX8_put 19 = .ok (.iload 4, 2) := by decide +kernel
theorem dX8_put_21 : decode cX8_put 21 = .ok (.iconst 1, 1) := by decide +kernel
theorem dX8_put_22 : decode cX8_put 22 = .ok (.invokevirtual 91, 3) := by decide +kernel
theorem dX8_put_25 : decode cX8_put 25 = .ok (.ifCond .ne 6, 3) := by decide +kernel
theorem dX8_put_28 : decode cX8_put 28 = .ok (.bipush (-2), 2) := by decide +kernel
theorem dX8_put_30 : decode cX8_put 30 = .ok (.ireturn, 1) := by decide +kernel
theorem dX8_put_31 : decode cX8_put 31 = .ok (.aload_n 0, 1) := by decide +kernel
theorem dX8_put_32 : decode cX8_put 32 = .ok (.iload_n 1, 1) := by decide +kernel
theorem dX8_put_33 : decode cX8_put 33 = .ok (.iload 4, 2) := by decide +kernel
theorem dX8_put_35 : decode cX8_put 35 = .ok (.invokevirtual 97, 3) := by decide +kernel
theorem dX8_put_38 : decode cX8_put 38 = .ok (.ifCond .eq 7, 3) := by decide +kernel
theorem dX8_put_41 : decode cX8_put 41 = .ok (.iconst 0, 1) := by decide +kernel
theorem dX8_put_42 : decode cX8_put 42 = .ok (.goto 4, 3) := by decide +kernel
theorem dX8_put_45 : decode cX8_put 45 = .ok (.iconst 1, 1) := by decide +kernel
theorem dX8_put_46 : decode cX8_put 46 = .ok (.istore 5, 2) := by decide +kernel
theorem dX8_put_48 : decode cX8_put 48 = .ok (.aload_n 0, 1) := by decide +kernel
theorem dX8_put_49 : decode cX8_put 49 = .ok (.getfield 14, 3) := by decide +kernel
theorem dX8_put_52 : decode cX8_put 52 = .ok (.sipush 520, 3) := by decide +kernel
theorem dX8_put_55 : decode cX8_put 55 = .ok (.iload_n 1, 1) := by decide +kernel
theorem dX8_put_56 : decode cX8_put 56 = .ok (.imul, 1) := by decide +kernel
theorem dX8_put_57 : decode cX8_put 57 = .ok (.iload 4, 2) := by decide +kernel
theorem dX8_put_59 : decode cX8_put 59 = .ok (.iadd, 1) := by decide +kernel
theorem dX8_put_60 : decode cX8_put 60 = .ok (.iconst 1, 1) := by decide +kernel
theorem dX8_put_61 : decode cX8_put 61 = .ok (.bastore, 1) := by decide +kernel
theorem dX8_put_62 : decode cX8_put 62 = .ok (.aload_n 0, 1) := by decide +kernel
theorem dX8_put_63 : decode cX8_put 63 = .ok (.getfield 18, 3) := by decide +kernel
theorem dX8_put_66 : decode cX8_put 66 = .ok (.sipush 520, 3) := by decide +kernel
theorem dX8_put_69 : decode cX8_put 69 = .ok (.iload_n 1, 1) := by decide +kernel
theorem dX8_put_70 : decode cX8_put 70 = .ok (.imul, 1) := by decide +kernel
theorem dX8_put_71 : decode cX8_put 71 = .ok (.iload 4, 2) := by decide +kernel
theorem dX8_put_73 : decode cX8_put 73 = .ok (.iadd, 1) := by decide +kernel
theorem dX8_put_74 : decode cX8_put 74 = .ok (.iload_n 3, 1) := by decide +kernel
theorem dX8_put_75 : decode cX8_put 75 = .ok (.iastore, 1) := by decide +kernel
theorem dX8_put_76 : decode cX8_put 76 = .ok (.iload 5, 2) := by decide +kernel
theorem dX8_put_78 : decode cX8_put 78 = .ok (.ireturn, 1) := by decide +kernel
set_option maxRecDepth 20000 in
theorem ggX8_take_X8_isActive : GoodIn wsX8_take wsX8_isActive := goodIn_r _ [7, 8, 9, 48, 49, 50, 51, 52, 53, 54, 55, 56, 57, 58, 59, 60, 61, 62, 63] (by decide +kernel) (by decide +kernel)
set_option maxRecDepth 20000 in
theorem gX8_take_X8_isActive : GoodIn wsX8_take (wsV RX8 68 RX8 yX8_isActive wsX8_isActive) := goodIn_app (goodIn_of _ (by decide +kernel)) ggX8_take_X8_isActive
set_option maxRecDepth 20000 in
theorem ggX8_take_X8_number : GoodIn wsX8_take wsX8_number := goodIn_r _ [13, 14, 15, 16, 17, 18, 6, 19, 48, 49, 50, 51, 52, 53, 54, 55, 56, 57, 58, 59, 60, 61, 62, 63] (by decide +kernel) (by decide +kernel)
set_option maxRecDepth 20000 in
theorem gX8_take_X8_number : GoodIn wsX8_take (wsV RX8 88 RX8 yX8_number wsX8_number) := goodIn_app (goodIn_of _ (by decide +kernel)) ggX8_take_X8_number
set_option maxRecDepth 20000 in
theorem ggX8_take_X8_mayDo : GoodIn wsX8_take wsX8_mayDo := goodIn_r _ [23, 24, 25, 26, 27, 28, 29, 6, 30, 8, 31, 32, 33, 34, 3, 4, 5, 7, 9, 35, 36, 37, 38, 39, 48, 49, 50, 51, 52, 53, 54, 55, 56, 57, 58, 59, 60, 61, 62, 63] (by decide +kernel) (by decide +kernel)
set_option maxRecDepth 20000 in
theorem gX8_take_X8_mayDo : GoodIn wsX8_take (wsV RX8 91 RX8 yX8_mayDo wsX8_mayDo) := goodIn_app (goodIn_of _ (by decide +kernel)) ggX8_take_X8_mayDo
set_option maxRecDepth 20000 in
theorem ggX8_take_X8_sees : GoodIn wsX8_take wsX8_sees := goodIn_r _ [43, 44, 45, 46, 6, 47, 1, 39, 48, 49, 50, 51, 52, 53, 54, 55, 56, 57, 58, 59, 60, 61, 62, 63] (by decide +kernel) (by decide +kernel)
set_option maxRecDepth 20000 in
theorem gX8_take_X8_sees : GoodIn wsX8_take (wsV RX8 97 RX8 yX8_sees wsX8_sees) := goodIn_app (goodIn_of _ (by decide +kernel)) ggX8_take_X8_sees
theorem dX8_take_0 : decode cX8_take 0 = .ok (.aload_n 0, 1) := by decide +kernel
theorem dX8_take_1 : decode cX8_take 1 = .ok (.iload_n 1, 1) := by decide +kernel
theorem dX8_take_2 : decode cX8_take 2 = .ok (.invokevirtual 68, 3) := by decide +kernel
theorem dX8_take_5 : decode cX8_take 5 = .ok (.ifCond .ne 5, 3) := by decide +kernel
theorem dX8_take_8 : decode cX8_take 8 = .ok (.iconst (-1), 1) := by decide +kernel
theorem dX8_take_9 : decode cX8_take 9 = .ok (.ireturn, 1) := by decide +kernel
theorem dX8_take_10 : decode cX8_take 10 = .ok (.aload_n 0, 1) := by decide +kernel
theorem dX8_take_11 : decode cX8_take 11 = .ok (.iload_n 2, 1) := by decide +kernel
theorem dX8_take_12 : decode cX8_take 12 = .ok (.invokevirtual 88, 3) := by decide +kernel
theorem dX8_take_15 : decode cX8_take 15 = .ok (.istore_n 3, 1) := by decide +kernel
theorem dX8_take_16 : decode cX8_take 16 = .ok (.aload_n 0, 1) := by decide +kernel
theorem dX8_take_17 : decode cX8_take 17 = .ok (.iload_n 1, 1) := by decide +kernel
theorem dX8_take_18 : decode cX8_take 18 = .ok (.iload_n 3, 1) := by decide +kernel
theorem dX8_take_19 : decode cX8_take 19 = .ok (.iconst 1, 1) := by decide +kernel
theorem dX8_take_20 : decode cX8_take 20 = .ok (.invokevirtual 91, 3) := by decide +kernel
theorem dX8_take_23 : decode cX8_take 23 = .ok (.ifCond .ne 6, 3) := by decide +kernel
theorem dX8_take_26 : decode cX8_take 26 = .ok (.bipush (-2), 2) := by decide +kernel
theorem dX8_take_28 : decode cX8_take 28 = .ok (.ireturn, 1) := by decide +kernel
theorem dX8_take_29 : decode cX8_take 29 = .ok (.aload_n 0, 1) := by decide +kernel
theorem dX8_take_30 : decode cX8_take 30 = .ok (.iload_n 1, 1) := by decide +kernel
theorem dX8_take_31 : decode cX8_take 31 = .ok (.iload_n 3, 1) := by decide +kernel
theorem dX8_take_32 : decode cX8_take 32 = .ok (.invokevirtual 97, 3) := by decide +kernel
theorem dX8_take_35 : decode cX8_take 35 = .ok (.ifCond .eq 7, 3) := by decide +kernel
theorem dX8_take_38 : decode cX8_take 38 = .ok (.iconst 1, 1) := by decide +kernel
theorem dX8_take_39 : decode cX8_take 39 = .ok (.goto 4, 3) := by decide +kernel
theorem dX8_take_42 : decode cX8_take 42 = .ok (.iconst 0, 1) := by decide +kernel
theorem dX8_take_43 : decode cX8_take 43 = .ok (.istore 4, 2) := by decide +kernel
theorem dX8_take_45 : decode cX8_take 45 = .ok (.aload_n 0, 1) := by decide +kernel
theorem dX8_take_46 : decode cX8_take 46 = .ok (.getfield 14, 3) := by decide +kernel
theorem dX8_take_49 : decode cX8_take 49 = .ok (.sipush 520, 3) := by decide +kernel
theorem dX8_take_52 : decode cX8_take 52 = .ok (.iload_n 1, 1) := by decide +kernel
theorem dX8_take_53 : decode cX8_take 53 = .ok (.imul, 1) := by decide +kernel
theorem dX8_take_54 : decode cX8_take 54 = .ok (.iload_n 3, 1) := by decide +kernel
theorem dX8_take_55 : decode cX8_take 55 = .ok (.iadd, 1) := by decide +kernel
theorem dX8_take_56 : decode cX8_take 56 = .ok (.iconst 2, 1) := by decide +kernel
theorem dX8_take_57 : decode cX8_take 57 = .ok (.bastore, 1) := by decide +kernel
theorem dX8_take_58 : decode cX8_take 58 = .ok (.aload_n 0, 1) := by decide +kernel
theorem dX8_take_59 : decode cX8_take 59 = .ok (.getfield 18, 3) := by decide +kernel
theorem dX8_take_62 : decode cX8_take 62 = .ok (.sipush 520, 3) := by decide +kernel
theorem dX8_take_65 : decode cX8_take 65 = .ok (.iload_n 1, 1) := by decide +kernel
theorem dX8_take_66 : decode cX8_take 66 = .ok (.imul, 1) := by decide +kernel
theorem dX8_take_67 : decode cX8_take 67 = .ok (.iload_n 3, 1) := by decide +kernel
theorem dX8_take_68 : decode cX8_take 68 = .ok (.iadd, 1) := by decide +kernel
theorem dX8_take_69 : decode cX8_take 69 = .ok (.iconst 0, 1) := by decide +kernel
theorem dX8_take_70 : decode cX8_take 70 = .ok (.iastore, 1) := by decide +kernel
theorem dX8_take_71 : decode cX8_take 71 = .ok (.iload 4, 2) := by decide +kernel
theorem dX8_take_73 : decode cX8_take 73 = .ok (.ireturn, 1) := by decide +kernel
set_option maxRecDepth 20000 in
theorem ggX8_children_X8_isActive : GoodIn wsX8_children wsX8_isActive := goodIn_r _ [7, 1, 8, 9, 10, 11, 12, 13, 14, 15, 16, 17, 18, 19, 20, 21, 22, 23, 24] (by decide +kernel) (by decide +kernel)
set_option maxRecDepth 20000 in
theorem gX8_children_X8_isActive : GoodIn wsX8_children (wsV RX8 68 RX8 yX8_isActive wsX8_isActive) := goodIn_app (goodIn_of _ (by decide +kernel)) ggX8_children_X8_isActive
theorem dX8_children_0 : decode cX8_children 0 = .ok (.iconst 0, 1) := by decide +kernel
theorem dX8_children_1 : decode cX8_children 1 = .ok (.istore_n 2, 1) := by decide +kernel
theorem dX8_children_2 : decode cX8_children 2 = .ok (.iconst 1, 1) := by decide +kernel
theorem dX8_children_3 : decode cX8_children 3 = .ok (.istore_n 3, 1) := by decide +kernel
theorem dX8_children_4 : decode cX8_children 4 = .ok (.iload_n 3, 1) := by decide +kernel
theorem dX8_children_5 : decode cX8_children 5 = .ok (.aload_n 0, 1) := by decide +kernel
theorem dX8_children_6 : decode cX8_children 6 = .ok (.getfield 53, 3) := by decide +kernel
theorem dX8_children_9 : decode cX8_children 9 = .ok (.if_icmp .gt 35, 3) := by decide +kernel
theorem dX8_children_12 : decode cX8_children 12 = .ok (.iload_n 2, 1) := by decide +kernel
theorem dX8_children_13 : decode cX8_children 13 = .ok (.aload_n 0, 1) := by decide +kernel
theorem dX8_children_14 : decode cX8_children 14 = .ok (.iload_n 3, 1) := by decide +kernel
theorem dX8_children_15 : decode cX8_children 15 = .ok (.invokevirtual 68, 3) := by decide +kernel
theorem dX8_children_18 : decode cX8_children 18 = .ok (.ifCond .eq 17, 3) := by decide +kernel
theorem dX8_children_21 : decode cX8_children 21 = .ok (.aload_n 0, 1) := by decide +kernel
theorem dX8_children_22 : decode cX8_children 22 = .ok (.getfield 24, 3) := by decide +kernel
theorem dX8_children_25 : decode cX8_children 25 = .ok (.iload_n 3, 1) := by decide +kernel
theorem dX8_children_26 : decode cX8_children 26 = .ok (.iaload, 1) := by decide +kernel
theorem dX8_children_27 : decode cX8_children 27 = .ok (.iload_n 1, 1) := by decide +kernel
theorem dX8_children_28 : decode cX8_children 28 = .ok (.if_icmp .ne 7, 3) := by decide +kernel
theorem dX8_children_31 : decode cX8_children 31 = .ok (.iconst 1, 1) := by decide +kernel
theorem dX8_children_32 : decode cX8_children 32 = .ok (.goto 4, 3) := by decide +kernel
theorem dX8_children_35 : decode cX8_children 35 = .ok (.iconst 0, 1) := by decide +kernel
theorem dX8_children_36 : decode cX8_children 36 = .ok (.iadd, 1) := by decide +kernel
theorem dX8_children_37 : decode cX8_children 37 = .ok (.istore_n 2, 1) := by decide +kernel
theorem dX8_children_38 : decode cX8_children 38 = .ok (.iinc 3 1, 3) := by decide +kernel
theorem dX8_children_41 : decode cX8_children 41 = .ok (.goto (-37), 3) := by decide +kernel
theorem dX8_children_44 : decode cX8_children 44 = .ok (.iload_n 2, 1) := by decide +kernel
theorem dX8_children_45 : decode cX8_children 45 = .ok (.ireturn, 1) := by decide +kernel
set_option maxRecDepth 20000 in
theorem ggX8_mark_X8_isActive : GoodIn wsX8_mark wsX8_isActive := goodIn_r _ [12, 13, 14, 19, 20, 21, 22, 23, 24, 25, 26, 27, 28, 29, 30, 31, 32, 33, 34] (by decide +kernel) (by decide +kernel)
set_option maxRecDepth 20000 in
theorem gX8_mark_X8_isActive : GoodIn wsX8_mark (wsV RX8 68 RX8 yX8_isActive wsX8_isActive) := goodIn_app (goodIn_of _ (by decide +kernel)) ggX8_mark_X8_isActive
set_option maxRecDepth 20000 in
theorem ggX8_mark_X8_marksOf : GoodIn wsX8_mark wsX8_marksOf := goodIn_r _ [18, 2, 1, 3, 19, 20, 21, 22, 23, 24, 25, 26, 27, 28, 29, 30, 31, 32, 33, 34] (by decide +kernel) (by decide +kernel)
set_option maxRecDepth 20000 in
theorem gX8_mark_X8_marksOf : GoodIn wsX8_mark (wsV RX8 100 RX8 yX8_marksOf wsX8_marksOf) := goodIn_app (goodIn_of _ (by decide +kernel)) ggX8_mark_X8_marksOf
theorem dX8_mark_0 : decode cX8_mark 0 = .ok (.aload_n 0, 1) := by decide +kernel
theorem dX8_mark_1 : decode cX8_mark 1 = .ok (.iload_n 1, 1) := by decide +kernel
theorem dX8_mark_2 : decode cX8_mark 2 = .ok (.invokevirtual 68, 3) := by decide +kernel
theorem dX8_mark_5 : decode cX8_mark 5 = .ok (.ifCond .ne 5, 3) := by decide +kernel
theorem dX8_mark_8 : decode cX8_mark 8 = .ok (.iconst (-1), 1) := by decide +kernel
theorem dX8_mark_9 : decode cX8_mark 9 = .ok (.ireturn, 1) := by decide +kernel
theorem dX8_mark_10 : decode cX8_mark 10 = .ok (.aload_n 0, 1) := by decide +kernel
theorem dX8_mark_11 : decode cX8_mark 11 = .ok (.iload_n 1, 1) := by decide +kernel
theorem dX8_mark_12 : decode cX8_mark 12 = .ok (.invokevirtual 100, 3) := by decide +kernel
theorem dX8_mark_15 : decode cX8_mark 15 = .ok (.istore_n 2, 1) := by decide +kernel
theorem dX8_mark_16 : decode cX8_mark 16 = .ok (.aload_n 0, 1) := by decide +kernel
theorem dX8_mark_17 : decode cX8_mark 17 = .ok (.getfield 37, 3) := by decide +kernel
theorem dX8_mark_20 : decode cX8_mark 20 = .ok (.aload_n 0, 1) := by decide +kernel
theorem dX8_mark_21 : decode cX8_mark 21 = .ok (.getfield 103, 3) := by decide +kernel
theorem dX8_mark_24 : decode cX8_mark 24 = .ok (.iload_n 1, 1) := by decide +kernel
theorem dX8_mark_25 : decode cX8_mark 25 = .ok (.iastore, 1) := by decide +kernel
theorem dX8_mark_26 : decode cX8_mark 26 = .ok (.aload_n 0, 1) := by decide +kernel
theorem dX8_mark_27 : decode cX8_mark 27 = .ok (.getfield 40, 3) := by decide +kernel
theorem dX8_mark_30 : decode cX8_mark 30 = .ok (.aload_n 0, 1) := by decide +kernel
theorem dX8_mark_31 : decode cX8_mark 31 = .ok (.getfield 103, 3) := by decide +kernel
theorem dX8_mark_34 : decode cX8_mark 34 = .ok (.iconst 1, 1) := by decide +kernel
theorem dX8_mark_35 : decode cX8_mark 35 = .ok (.bastore, 1) := by decide +kernel
theorem dX8_mark_36 : decode cX8_mark 36 = .ok (.iconst 0, 1) := by decide +kernel
theorem dX8_mark_37 : decode cX8_mark 37 = .ok (.istore_n 3, 1) := by decide +kernel
theorem dX8_mark_38 : decode cX8_mark 38 = .ok (.iload_n 3, 1) := by decide +kernel
theorem dX8_mark_39 : decode cX8_mark 39 = .ok (.sipush 520, 3) := by decide +kernel
theorem dX8_mark_42 : decode cX8_mark 42 = .ok (.if_icmp .ge 63, 3) := by decide +kernel
theorem dX8_mark_45 : decode cX8_mark 45 = .ok (.aload_n 0, 1) := by decide +kernel
theorem dX8_mark_46 : decode cX8_mark 46 = .ok (.getfield 44, 3) := by decide +kernel
theorem dX8_mark_49 : decode cX8_mark 49 = .ok (.sipush 520, 3) := by decide +kernel
theorem dX8_mark_52 : decode cX8_mark 52 = .ok (.aload_n 0, 1) := by decide +kernel
theorem dX8_mark_53 : decode cX8_mark 53 = .ok (.getfield 103, 3) := by decide +kernel
theorem dX8_mark_56 : decode cX8_mark 56 = .ok (.imul, 1) := by decide +kernel
theorem dX8_mark_57 : decode cX8_mark 57 = .ok (.iload_n 3, 1) := by decide +kernel
theorem dX8_mark_58 : decode cX8_mark 58 = .ok (.iadd, 1) := by decide +kernel
theorem dX8_mark_59 : decode cX8_mark 59 = .ok (.aload_n 0, 1) := by decide +kernel
theorem dX8_mark_60 : decode cX8_mark 60 = .ok (.getfield 14, 3) := by decide +kernel
theorem dX8_mark_63 : decode cX8_mark 63 = .ok (.sipush 520, 3) := by decide +kernel
theorem dX8_mark_66 : decode cX8_mark 66 = .ok (.iload_n 1, 1) := by decide +kernel
theorem dX8_mark_67 : decode cX8_mark 67 = .ok (.imul, 1) := by decide +kernel
theorem dX8_mark_68 : decode cX8_mark 68 = .ok (.iload_n 3, 1) := by decide +kernel
theorem dX8_mark_69 : decode cX8_mark 69 = .ok (.iadd, 1) := by decide +kernel
theorem dX8_mark_70 : decode cX8_mark 70 = .ok (.baload, 1) := by decide +kernel
theorem dX8_mark_71 : decode cX8_mark 71 = .ok (.bastore, 1) := by decide +kernel
theorem dX8_mark_72 : decode cX8_mark 72 = .ok (.aload_n 0, 1) := by decide +kernel
theorem dX8_mark_73 : decode cX8_mark 73 = .ok (.getfield 47, 3) := by decide +kernel
theorem dX8_mark_76 : decode cX8_mark 76 = .ok (.sipush 520, 3) := by decide +kernel
theorem dX8_mark_79 : decode cX8_mark 79 = .ok (.aload_n 0, 1) := by decide +kernel
theorem dX8_mark_80 : decode cX8_mark 80 = .ok (.getfield 103, 3) := by decide +kernel
theorem dX8_mark_83 : decode cX8_mark 83 = .ok (.imul, 1) := by decide +kernel
theorem dX8_mark_84 : decode cX8_mark 84 = .ok (.iload_n 3, 1) := by decide +kernel
theorem dX8_mark_85 : decode cX8_mark 85 = .ok (.iadd, 1) := by decide +kernel
theorem dX8_mark_86 : decode cX8_mark 86 = .ok (.aload_n 0, 1) := by decide +kernel
theorem dX8_mark_87 : decode cX8_mark 87 = .ok (.getfield 18, 3) := by decide +kernel
theorem dX8_mark_90 : decode cX8_mark 90 = .ok (.sipush 520, 3) := by decide +kernel
theorem dX8_mark_93 : decode cX8_mark 93 = .ok (.iload_n 1, 1) := by decide +kernel
theorem dX8_mark_94 : decode cX8_mark 94 = .ok (.imul, 1) := by decide +kernel
theorem dX8_mark_95 : decode cX8_mark 95 = .ok (.iload_n 3, 1) := by decide +kernel
theorem dX8_mark_96 : decode cX8_mark 96 = .ok (.iadd, 1) := by decide +kernel
theorem dX8_mark_97 : decode cX8_mark 97 = .ok (.iaload, 1) := by decide +kernel
theorem dX8_mark_98 : decode cX8_mark 98 = .ok (.iastore, 1) := by decide +kernel
theorem dX8_mark_99 : decode cX8_mark 99 = .ok (.iinc 3 1, 3) := by decide +kernel
theorem dX8_mark_102 : decode cX8_mark 102 = .ok (.goto (-64), 3) := by decide +kernel
