theorem dX8_mark_105 : decode cX8_mark 105 = .ok (.aload_n 0, 1) := by decide +kernel
theorem dX8_mark_106 : decode cX8_mark 106 = .ok (.dup, 1) := by decide +kernel
theorem dX8_mark_107 : decode cX8_mark 107 = .ok (.getfield 103, 3) := by decide +kernel
theorem dX8_mark_110 : decode cX8_mark 110 = .ok (.iconst 1, 1) := by decide +kernel
theorem dX8_mark_111 : decode cX8_mark 111 = .ok (.iadd, 1) := by decide +kernel
theorem dX8_mark_112 : decode cX8_mark 112 = .ok (.putfield 103, 3) := by decide +kernel
theorem dX8_mark_115 : decode cX8_mark 115 = .ok (.iload_n 2, 1) := by decide +kernel
theorem dX8_mark_116 : decode cX8_mark 116 = .ok (.ireturn, 1) := by decide +kernel
theorem dX8_marksOf_0 : decode cX8_marksOf 0 = .ok (.iconst 0, 1) := by decide +kernel
theorem dX8_marksOf_1 : decode cX8_marksOf 1 = .ok (.istore_n 2, 1) := by decide +kernel
theorem dX8_marksOf_2 : decode cX8_marksOf 2 = .ok (.iconst 0, 1) := by decide +kernel
theorem dX8_marksOf_3 : decode cX8_marksOf 3 = .ok (.istore_n 3, 1) := by decide +kernel
theorem dX8_marksOf_4 : decode cX8_marksOf 4 = .ok (.iload_n 3, 1) := by decide +kernel
theorem dX8_marksOf_5 : decode cX8_marksOf 5 = .ok (.aload_n 0, 1) := by decide +kernel
theorem dX8_marksOf_6 : decode cX8_marksOf 6 = .ok (.getfield 103, 3) := by decide +kernel
theorem dX8_marksOf_9 : decode cX8_marksOf 9 = .ok (.if_icmp .ge 36, 3) := by decide +kernel
theorem dX8_marksOf_12 : decode cX8_marksOf 12 = .ok (.iload_n 2, 1) := by decide +kernel
theorem dX8_marksOf_13 : decode cX8_marksOf 13 = .ok (.aload_n 0, 1) := by decide +kernel
theorem dX8_marksOf_14 : decode cX8_marksOf 14 = .ok (.getfield 37, 3) := by decide +kernel
theorem dX8_marksOf_17 : decode cX8_marksOf 17 = .ok (.iload_n 3, 1) := by decide +kernel
theorem dX8_marksOf_18 : decode cX8_marksOf 18 = .ok (.iaload, 1) := by decide +kernel
theorem dX8_marksOf_19 : decode cX8_marksOf 19 = .ok (.iload_n 1, 1) := by decide +kernel
theorem dX8_marksOf_20 : decode cX8_marksOf 20 = .ok (.if_icmp .ne 16, 3) := by decide +kernel
theorem dX8_marksOf_23 : decode cX8_marksOf 23 = .ok (.aload_n 0, 1) := by decide +kernel
theorem dX8_marksOf_24 : decode cX8_marksOf 24 = .ok (.getfield 40, 3) := by decide +kernel
theorem dX8_marksOf_27 : decode cX8_marksOf 27 = .ok (.iload_n 3, 1) := by decide +kernel
theorem dX8_marksOf_28 : decode cX8_marksOf 28 = .ok (.baload, 1) := by decide +kernel
theorem dX8_marksOf_29 : decode cX8_marksOf 29 = .ok (.ifCond .eq 7, 3) := by decide +kernel
theorem dX8_marksOf_32 : decode cX8_marksOf 32 = .ok (.iconst 1, 1) := by decide +kernel
theorem dX8_marksOf_33 : decode cX8_marksOf 33 = .ok (.goto 4, 3) := by decide +kernel
theorem dX8_marksOf_36 : decode cX8_marksOf 36 = .ok (.iconst 0, 1) := by decide +kernel
theorem dX8_marksOf_37 : decode cX8_marksOf 37 = .ok (.iadd, 1) := by decide +kernel
theorem dX8_marksOf_38 : decode cX8_marksOf 38 = .ok (.istore_n 2, 1) := by decide +kernel
theorem dX8_marksOf_39 : decode cX8_marksOf 39 = .ok (.iinc 3 1, 3) := by decide +kernel
theorem dX8_marksOf_42 : decode cX8_marksOf 42 = .ok (.goto (-38), 3) := by decide +kernel
theorem dX8_marksOf_45 : decode cX8_marksOf 45 = .ok (.iload_n 2, 1) := by decide +kernel
theorem dX8_marksOf_46 : decode cX8_marksOf 46 = .ok (.ireturn, 1) := by decide +kernel
set_option maxRecDepth 20000 in
theorem ggX8_back_X8_isActive : GoodIn wsX8_back wsX8_isActive := goodIn_r _ [8, 9, 10, 28, 29, 30, 31, 32, 33, 34, 35, 36, 37, 38, 39, 40, 41, 42, 43] (by decide +kernel) (by decide +kernel)
set_option maxRecDepth 20000 in
theorem gX8_back_X8_isActive : GoodIn wsX8_back (wsV RX8 68 RX8 yX8_isActive wsX8_isActive) := goodIn_app (goodIn_of _ (by decide +kernel)) ggX8_back_X8_isActive
set_option maxRecDepth 20000 in
theorem ggX8_back_X8_children : GoodIn wsX8_back wsX8_children := goodIn_r _ [14, 9, 15, 4, 5, 6, 7, 8, 10, 28, 29, 30, 31, 32, 33, 34, 35, 36, 37, 38, 39, 40, 41, 42, 43] (by decide +kernel) (by decide +kernel)
set_option maxRecDepth 20000 in
theorem gX8_back_X8_children : GoodIn wsX8_back (wsV RX8 106 RX8 yX8_children wsX8_children) := goodIn_app (goodIn_of _ (by decide +kernel)) ggX8_back_X8_children
set_option maxRecDepth 20000 in
theorem ggX8_back_X8_marksOf : GoodIn wsX8_back wsX8_marksOf := goodIn_r _ [19, 1, 2, 3, 28, 29, 30, 31, 32, 33, 34, 35, 36, 37, 38, 39, 40, 41, 42, 43] (by decide +kernel) (by decide +kernel)
set_option maxRecDepth 20000 in
theorem gX8_back_X8_marksOf : GoodIn wsX8_back (wsV RX8 100 RX8 yX8_marksOf wsX8_marksOf) := goodIn_app (goodIn_of _ (by decide +kernel)) ggX8_back_X8_marksOf
set_option maxRecDepth 20000 in
theorem ggX8_back_X8_restore : GoodIn wsX8_back wsX8_restore := goodIn_r _ [23, 24, 25, 26, 27, 28, 29, 30, 31, 32, 33, 34, 35, 36, 37, 38, 39, 40, 41, 42, 43] (by decide +kernel) (by decide +kernel)
set_option maxRecDepth 20000 in
theorem gX8_back_X8_restore : GoodIn wsX8_back (wsV RX8 109 RX8 yX8_restore wsX8_restore) := goodIn_app (goodIn_of _ (by decide +kernel)) ggX8_back_X8_restore
theorem dX8_back_0 : decode cX8_back 0 = .ok (.aload_n 0, 1) := by decide +kernel
theorem dX8_back_1 : decode cX8_back 1 = .ok (.iload_n 1, 1) := by decide +kernel
theorem dX8_back_2 : decode cX8_back 2 = .ok (.invokevirtual 68, 3) := by decide +kernel
theorem dX8_back_5 : decode cX8_back 5 = .ok (.ifCond .eq 24, 3) := by decide +kernel
theorem dX8_back_8 : decode cX8_back 8 = .ok (.aload_n 0, 1) := by decide +kernel
theorem dX8_back_9 : decode cX8_back 9 = .ok (.iload_n 1, 1) := by decide +kernel
theorem dX8_back_10 : decode cX8_back 10 = .ok (.invokevirtual 106, 3) := by decide +kernel
theorem dX8_back_13 : decode cX8_back 13 = .ok (.ifCond .gt 16, 3) := by decide +kernel
theorem dX8_back_16 : decode cX8_back 16 = .ok (.iload_n 2, 1) := by decide +kernel
theorem dX8_back_17 : decode cX8_back 17 = .ok (.ifCond .lt 12, 3) := by decide +kernel
theorem dX8_back_20 : decode cX8_back 20 = .ok (.iload_n 2, 1) := by decide +kernel
theorem dX8_back_21 : decode cX8_back 21 = .ok (.aload_n 0, 1) := by decide +kernel
theorem dX8_back_22 : decode cX8_back 22 = .ok (.iload_n 1, 1) := by decide +kernel
theorem dX8_back_23 : decode cX8_back 23 = .ok (.invokevirtual 100, 3) := by decide +kernel
theorem dX8_back_26 : decode cX8_back 26 = .ok (.if_icmp .lt 5, 3) := by decide +kernel
theorem dX8_back_29 : decode cX8_back 29 = .ok (.iconst (-1), 1) := by decide +kernel
theorem dX8_back_30 : decode cX8_back 30 = .ok (.ireturn, 1) := by decide +kernel
theorem dX8_back_31 : decode cX8_back 31 = .ok (.iconst 0, 1) := by decide +kernel
theorem dX8_back_32 : decode cX8_back 32 = .ok (.istore_n 3, 1) := by decide +kernel
theorem dX8_back_33 : decode cX8_back 33 = .ok (.iconst 0, 1) := by decide +kernel
theorem dX8_back_34 : decode cX8_back 34 = .ok (.istore 4, 2) := by decide +kernel
theorem dX8_back_36 : decode cX8_back 36 = .ok (.iconst 0, 1) := by decide +kernel
theorem dX8_back_37 : decode cX8_back 37 = .ok (.istore 5, 2) := by decide +kernel
theorem dX8_back_39 : decode cX8_back 39 = .ok (.iload 5, 2) := by decide +kernel
theorem dX8_back_41 : decode cX8_back 41 = .ok (.aload_n 0, 1) := by decide +kernel
theorem dX8_back_42 : decode cX8_back 42 = .ok (.getfield 103, 3) := by decide +kernel
theorem dX8_back_45 : decode cX8_back 45 = .ok (.if_icmp .ge 64, 3) := by decide +kernel
theorem dX8_back_48 : decode cX8_back 48 = .ok (.aload_n 0, 1) := by decide +kernel
theorem dX8_back_49 : decode cX8_back 49 = .ok (.getfield 37, 3) := by decide +kernel
theorem dX8_back_52 : decode cX8_back 52 = .ok (.iload 5, 2) := by decide +kernel
theorem dX8_back_54 : decode cX8_back 54 = .ok (.iaload, 1) := by decide +kernel
theorem dX8_back_55 : decode cX8_back 55 = .ok (.iload_n 1, 1) := by decide +kernel
theorem dX8_back_56 : decode cX8_back 56 = .ok (.if_icmp .ne 47, 3) := by decide +kernel
theorem dX8_back_59 : decode cX8_back 59 = .ok (.aload_n 0, 1) := by decide +kernel
theorem dX8_back_60 : decode cX8_back 60 = .ok (.getfield 40, 3) := by decide +kernel
theorem dX8_back_63 : decode cX8_back 63 = .ok (.iload 5, 2) := by decide +kernel
theorem dX8_back_65 : decode cX8_back 65 = .ok (.baload, 1) := by decide +kernel
theorem dX8_back_66 : decode cX8_back 66 = .ok (.ifCond .eq 37, 3) := by decide +kernel
theorem dX8_back_69 : decode cX8_back 69 = .ok (.iload_n 3, 1) := by decide +kernel
theorem dX8_back_70 : decode cX8_back 70 = .ok (.iload_n 2, 1) := by decide +kernel
theorem dX8_back_71 : decode cX8_back 71 = .ok (.if_icmp .ne 12, 3) := by decide +kernel
theorem dX8_back_74 : decode cX8_back 74 = .ok (.aload_n 0, 1) := by decide +kernel
theorem dX8_back_75 : decode cX8_back 75 = .ok (.iload_n 1, 1) := by decide +kernel
theorem dX8_back_76 : decode cX8_back 76 = .ok (.iload 5, 2) := by decide +kernel
theorem dX8_back_78 : decode cX8_back 78 = .ok (.invokevirtual 109, 3) := by decide +kernel
theorem dX8_back_81 : decode cX8_back 81 = .ok (.istore 4, 2) := by decide +kernel
theorem dX8_back_83 : decode cX8_back 83 = .ok (.aload_n 0, 1) := by decide +kernel
theorem dX8_back_84 : decode cX8_back 84 = .ok (.getfield 40, 3) := by decide +kernel
theorem dX8_back_87 : decode cX8_back 87 = .ok (.iload 5, 2) := by decide +kernel
theorem dX8_back_89 : decode cX8_back 89 = .ok (.iload_n 3, 1) := by decide +kernel
theorem dX8_back_90 : decode cX8_back 90 = .ok (.iload_n 2, 1) := by decide +kernel
theorem dX8_back_91 : decode cX8_back 91 = .ok (.if_icmp .gt 7, 3) := by decide +kernel
theorem dX8_back_94 : decode cX8_back 94 = .ok (.iconst 1, 1) := by decide +kernel
theorem dX8_back_95 : decode cX8_back 95 = .ok (.goto 4, 3) := by decide +kernel
theorem dX8_back_98 : decode cX8_back 98 = .ok (.iconst 0, 1) := by decide +kernel
theorem dX8_back_99 : decode cX8_back 99 = .ok (.bastore, 1) := by decide +kernel
theorem dX8_back_100 : decode cX8_back 100 = .ok (.iinc 3 1, 3) := by decide +kernel
theorem dX8_back_103 : decode cX8_back 103 = .ok (.iinc 5 1, 3) := by decide +kernel
theorem dX8_back_106 : decode cX8_back 106 = .ok (.goto (-67), 3) := by decide +kernel
theorem dX8_back_109 : decode cX8_back 109 = .ok (.iload 4, 2) := by decide +kernel
theorem dX8_back_111 : decode cX8_back 111 = .ok (.ireturn, 1) := by decide +kernel
theorem dX8_restore_0 : decode cX8_restore 0 = .ok (.iconst 0, 1) := by decide +kernel
theorem dX8_restore_1 : decode cX8_restore 1 = .ok (.istore_n 3, 1) := by decide +kernel
theorem dX8_restore_2 : decode cX8_restore 2 = .ok (.iconst 0, 1) := by decide +kernel
theorem dX8_restore_3 : decode cX8_restore 3 = .ok (.istore 4, 2) := by decide +kernel
theorem dX8_restore_5 : decode cX8_restore 5 = .ok (.iload 4, 2) := by decide +kernel
theorem dX8_restore_7 : decode cX8_restore 7 = .ok (.sipush 520, 3) := by decide +kernel
theorem dX8_restore_10 : decode cX8_restore 10 = .ok (.if_icmp .ge 99, 3) := by decide +kernel
theorem dX8_restore_13 : decode cX8_restore 13 = .ok (.sipush 520, 3) := by decide +kernel
theorem dX8_restore_16 : decode cX8_restore 16 = .ok (.iload_n 1, 1) := by decide +kernel
theorem dX8_restore_17 : decode cX8_restore 17 = .ok (.imul, 1) := by decide +kernel
theorem dX8_restore_18 : decode cX8_restore 18 = .ok (.iload 4, 2) := by decide +kernel
theorem dX8_restore_20 : decode cX8_restore 20 = .ok (.iadd, 1) := by decide +kernel
theorem dX8_restore_21 : decode cX8_restore 21 = .ok (.istore 5, 2) := by decide +kernel
theorem dX8_restore_23 : decode cX8_restore 23 = .ok (.sipush 520, 3) := by decide +kernel
theorem dX8_restore_26 : decode cX8_restore 26 = .ok (.iload_n 2, 1) := by decide +kernel
theorem dX8_restore_27 : decode cX8_restore 27 = .ok (.imul, 1) := by decide +kernel
theorem dX8_restore_28 : decode cX8_restore 28 = .ok (.iload 4, 2) := by decide +kernel
theorem dX8_restore_30 : decode cX8_restore 30 = .ok (.iadd, 1) := by decide +kernel
theorem dX8_restore_31 : decode cX8_restore 31 = .ok (.istore 6, 2) := by decide +kernel
theorem dX8_restore_33 : decode cX8_restore 33 = .ok (.iload_n 3, 1) := by decide +kernel
theorem dX8_restore_34 : decode cX8_restore 34 = .ok (.aload_n 0, 1) := by decide +kernel
theorem dX8_restore_35 : decode cX8_restore 35 = .ok (.getfield 14, 3) := by decide +kernel
theorem dX8_restore_38 : decode cX8_restore 38 = .ok (.iload 5, 2) := by decide +kernel
theorem dX8_restore_40 : decode cX8_restore 40 = .ok (.baload, 1) := by decide +kernel
theorem dX8_restore_41 : decode cX8_restore 41 = .ok (.aload_n 0, 1) := by decide +kernel
theorem dX8_restore_42 : decode cX8_restore 42 = .ok (.getfield 44, 3) := by decide +kernel
theorem dX8_restore_45 : decode cX8_restore 45 = .ok (.iload 6, 2) := by decide +kernel
theorem dX8_restore_47 : decode cX8_restore 47 = .ok (.baload, 1) := by decide +kernel
theorem dX8_restore_48 : decode cX8_restore 48 = .ok (.if_icmp .ne 20, 3) := by decide +kernel
theorem dX8_restore_51 : decode cX8_restore 51 = .ok (.aload_n 0, 1) := by decide +kernel
theorem dX8_restore_52 : decode cX8_restore 52 = .ok (.getfield 18, 3) := by decide +kernel
theorem dX8_restore_55 : decode cX8_restore 55 = .ok (.iload 5, 2) := by decide +kernel
theorem dX8_restore_57 : decode cX8_restore 57 = .ok (.iaload, 1) := by decide +kernel
theorem dX8_restore_58 : decode cX8_restore 58 = .ok (.aload_n 0, 1) := by decide +kernel
theorem dX8_restore_59 : decode cX8_restore 59 = .ok (.getfield 47, 3) := by decide +kernel
theorem dX8_restore_62 : decode cX8_restore 62 = .ok (.iload 6, 2) := by decide +kernel
theorem dX8_restore_64 : decode cX8_restore 64 = .ok (.iaload, 1) := by decide +kernel
theorem dX8_restore_65 : decode cX8_restore 65 = .ok (.if_icmp .eq 7, 3) := by decide +kernel
theorem dX8_restore_68 : decode cX8_restore 68 = .ok (.iconst 1, 1) := by decide +kernel
theorem dX8_restore_69 : decode cX8_restore 69 = .ok (.goto 4, 3) := by decide +kernel
theorem dX8_restore_72 : decode cX8_restore 72 = .ok (.iconst 0, 1) := by decide +kernel
theorem dX8_restore_73 : decode cX8_restore 73 = .ok (.iadd, 1) := by decide +kernel
theorem dX8_restore_74 : decode cX8_restore 74 = .ok (.istore_n 3, 1) := by decide +kernel
theorem dX8_restore_75 : decode cX8_restore 75 = .ok (.aload_n 0, 1) := by decide +kernel
theorem dX8_restore_76 : decode cX8_restore 76 = .ok (.getfield 14, 3) := by decide +kernel
theorem dX8_restore_79 : decode cX8_restore 79 = .ok (.iload 5, 2) := by decide +kernel
theorem dX8_restore_81 : decode cX8_restore 81 = .ok (.aload_n 0, 1) := by decide +kernel
theorem dX8_restore_82 : decode cX8_restore 82 = .ok (.getfield 44, 3) := by decide +kernel
theorem dX8_restore_85 : decode cX8_restore 85 = .ok (.iload 6, 2) := by decide +kernel
theorem dX8_restore_87 : decode cX8_restore 87 = .ok (.baload, 1) := by decide +kernel
theorem dX8_restore_88 : decode cX8_restore 88 = .ok (.bastore, 1) := by decide +kernel
theorem dX8_restore_89 : decode cX8_restore 89 = .ok (.aload_n 0, 1) := by decide +kernel
theorem dX8_restore_90 : decode cX8_restore 90 = .ok (.getfield 18, 3) := by decide +kernel
theorem dX8_restore_93 : decode cX8_restore 93 = .ok (.iload 5, 2) := by decide +kernel
theorem dX8_restore_95 : decode cX8_restore 95 = .ok (.aload_n 0, 1) := by decide +kernel
theorem dX8_restore_96 : decode cX8_restore 96 = .ok (.getfield 47, 3) := by decide +kernel
theorem dX8_restore_99 : decode cX8_restore 99 = .ok (.iload 6, 2) := by decide +kernel
theorem dX8_restore_101 : decode cX8_restore 101 = .ok (.iaload, 1) := by decide +kernel
theorem dX8_restore_102 : decode cX8_restore 102 = .ok (.iastore, 1) := by decide +kernel
theorem dX8_restore_103 : decode cX8_restore 103 = .ok (.iinc 4 1, 3) := by decide +kernel
theorem dX8_restore_106 : decode cX8_restore 106 = .ok (.goto (-101), 3) := by decide +kernel
theorem dX8_restore_109 : decode cX8_restore 109 = .ok (.iload_n 3, 1) := by decide +kernel
theorem dX8_restore_110 : decode cX8_restore 110 = .ok (.ireturn, 1) := by decide +kernel
theorem dX8_end_0 : decode cX8_end 0 = .ok (.aload_n 0, 1) := by decide +kernel
theorem dX8_end_1 : decode cX8_end 1 = .ok (.getfield 27, 3) := by decide +kernel
theorem dX8_end_4 : decode cX8_end 4 = .ok (.iload_n 1, 1) := by decide +kernel
theorem dX8_end_5 : decode cX8_end 5 = .ok (.iload_n 2, 1) := by decide +kernel
theorem dX8_end_6 : decode cX8_end 6 = .ok (.iastore, 1) := by decide +kernel
theorem dX8_end_7 : decode cX8_end 7 = .ok (.iconst 0, 1) := by decide +kernel
theorem dX8_end_8 : decode cX8_end 8 = .ok (.istore_n 3, 1) := by decide +kernel
theorem dX8_end_9 : decode cX8_end 9 = .ok (.iload_n 3, 1) := by decide +kernel
theorem dX8_end_10 : decode cX8_end 10 = .ok (.sipush 520, 3) := by decide +kernel
theorem dX8_end_13 : decode cX8_end 13 = .ok (.if_icmp .ge 48, 3) := by decide +kernel
theorem dX8_end_16 : decode cX8_end 16 = .ok (.aload_n 0, 1) := by decide +kernel
theorem dX8_end_17 : decode cX8_end 17 = .ok (.getfield 14, 3) := by decide +kernel
theorem dX8_end_20 : decode cX8_end 20 = .ok (.sipush 520, 3) := by decide +kernel
theorem dX8_end_23 : decode cX8_end 23 = .ok (.iload_n 1, 1) := by decide +kernel
theorem dX8_end_24 : decode cX8_end 24 = .ok (.imul, 1) := by decide +kernel
theorem dX8_end_25 : decode cX8_end 25 = .ok (.iload_n 3, 1) := by decide +kernel
theorem dX8_end_26 : decode cX8_end 26 = .ok (.iadd, 1) := by decide +kernel
theorem dX8_end_27 : decode cX8_end 27 = .ok (.iconst 0, 1) := by decide +kernel
theorem dX8_end_28 : decode cX8_end 28 = .ok (.bastore, 1) := by decide +kernel
theorem dX8_end_29 : decode cX8_end 29 = .ok (.aload_n 0, 1) := by decide +kernel
theorem dX8_end_30 : decode cX8_end 30 = .ok (.getfield 18, 3) := by decide +kernel
theorem dX8_end_33 : decode cX8_end 33 = .ok (.sipush 520, 3) := by decide +kernel
theorem dX8_end_36 : decode cX8_end 36 = .ok (.iload_n 1, 1) := by decide +kernel
theorem dX8_end_37 : decode cX8_end 37 = .ok (.imul, 1) := by decide +kernel
theorem dX8_end_38 : decode cX8_end 38 = .ok (.iload_n 3, 1) := by decide +kernel
theorem dX8_end_39 : decode cX8_end 39 = .ok (.iadd, 1) := by decide +kernel
theorem dX8_end_40 : decode cX8_end 40 = .ok (.iconst 0, 1) := by decide +kernel
theorem dX8_end_41 : decode cX8_end 41 = .ok (.iastore, 1) := by decide +kernel
theorem dX8_end_42 : decode cX8_end 42 = .ok (.aload_n 0, 1) := by decide +kernel
theorem dX8_end_43 : decode cX8_end 43 = .ok (.getfield 21, 3) := by decide +kernel
theorem dX8_end_46 : decode cX8_end 46 = .ok (.sipush 520, 3) := by decide +kernel
theorem dX8_end_49 : decode cX8_end 49 = .ok (.iload_n 1, 1) := by decide +kernel
theorem dX8_end_50 : decode cX8_end 50 = .ok (.imul, 1) := by decide +kernel
theorem dX8_end_51 : decode cX8_end 51 = .ok (.iload_n 3, 1) := by decide +kernel
theorem dX8_end_52 : decode cX8_end 52 = .ok (.iadd, 1) := by decide +kernel
theorem dX8_end_53 : decode cX8_end 53 = .ok (.iconst 0, 1) := by decide +kernel
theorem dX8_end_54 : decode cX8_end 54 = .ok (.bastore, 1) := by decide +kernel
theorem dX8_end_55 : decode cX8_end 55 = .ok (.iinc 3 1, 3) := by decide +kernel
theorem dX8_end_58 : decode cX8_end 58 = .ok (.goto (-49), 3) := by decide +kernel
theorem dX8_end_61 : decode cX8_end 61 = .ok (.iconst 0, 1) := by decide +kernel
theorem dX8_end_62 : decode cX8_end 62 = .ok (.istore_n 3, 1) := by decide +kernel
theorem dX8_end_63 : decode cX8_end 63 = .ok (.iload_n 3, 1) := by decide +kernel
theorem dX8_end_64 : decode cX8_end 64 = .ok (.aload_n 0, 1) := by decide +kernel
theorem dX8_end_65 : decode cX8_end 65 = .ok (.getfield 103, 3) := by decide +kernel
theorem dX8_end_68 : decode cX8_end 68 = .ok (.if_icmp .ge 39, 3) := by decide +kernel
theorem dX8_end_71 : decode cX8_end 71 = .ok (.aload_n 0, 1) := by decide +kernel
theorem dX8_end_72 : decode cX8_end 72 = .ok (.getfield 40, 3) := by decide +kernel
theorem dX8_end_75 : decode cX8_end 75 = .ok (.iload_n 3, 1) := by decide +kernel
theorem dX8_end_76 : decode cX8_end 76 = .ok (.aload_n 0, 1) := by decide +kernel
theorem dX8_end_77 : decode cX8_end 77 = .ok (.getfield 40, 3) := by decide +kernel
theorem dX8_end_80 : decode cX8_end 80 = .ok (.iload_n 3, 1) := by decide +kernel
theorem dX8_end_81 : decode cX8_end 81 = .ok (.baload, 1) := by decide +kernel
theorem dX8_end_82 : decode cX8_end 82 = .ok (.ifCond .eq 17, 3) := by decide +kernel
theorem dX8_end_85 : decode cX8_end 85 = .ok (.aload_n 0, 1) := by decide +kernel
theorem dX8_end_86 : decode cX8_end 86 = .ok (.getfield 37, 3) := by decide +kernel
theorem dX8_end_89 : decode cX8_end 89 = .ok (.iload_n 3, 1) := by decide +kernel
theorem dX8_end_90 : decode cX8_end 90 = .ok (.iaload, 1) := by decide +kernel
theorem dX8_end_91 : decode cX8_end 91 = .ok (.iload_n 1, 1) := by decide +kernel
theorem dX8_end_92 : decode cX8_end 92 = .ok (.if_icmp .eq 7, 3) := by decide +kernel
theorem dX8_end_95 : decode cX8_end 95 = .ok (.iconst 1, 1) := by decide +kernel
theorem dX8_end_96 : decode cX8_end 96 = .ok (.goto 4, 3) := by decide +kernel
theorem dX8_end_99 : decode cX8_end 99 = .ok (.iconst 0, 1) := by decide +kernel
theorem dX8_end_100 : decode cX8_end 100 = .ok (.bastore, 1) := by decide +kernel
theorem dX8_end_101 : decode cX8_end 101 = .ok (.iinc 3 1, 3) := by decide +kernel
theorem dX8_end_104 : decode cX8_end 104 = .ok (.goto (-41), 3) := by decide +kernel
theorem dX8_end_107 : decode cX8_end 107 = .ok (.return_, 1) := by decide +kernel
set_option maxRecDepth 20000 in
theorem ggX8_commit_X8_isActive : GoodIn wsX8_commit wsX8_isActive := goodIn_r _ [9, 10, 11, 23, 24, 25, 26, 27, 28, 29, 30, 31, 32, 33, 34, 35, 36, 37, 38] (by decide +kernel) (by decide +kernel)
set_option maxRecDepth 20000 in
theorem gX8_commit_X8_isActive : GoodIn wsX8_commit (wsV RX8 68 RX8 yX8_isActive wsX8_isActive) := goodIn_app (goodIn_of _ (by decide +kernel)) ggX8_commit_X8_isActive
set_option maxRecDepth 20000 in
theorem ggX8_commit_X8_children : GoodIn wsX8_commit wsX8_children := goodIn_r _ [15, 10, 1, 5, 6, 7, 8, 9, 11, 23, 24, 25, 26, 27, 28, 29, 30, 31, 32, 33, 34, 35, 36, 37, 38] (by decide +kernel) (by decide +kernel)
set_option maxRecDepth 20000 in
theorem gX8_commit_X8_children : GoodIn wsX8_commit (wsV RX8 106 RX8 yX8_children wsX8_children) := goodIn_app (goodIn_of _ (by decide +kernel)) ggX8_commit_X8_children
set_option maxRecDepth 20000 in
theorem ggX8_commit_X8_end : GoodIn wsX8_commit wsX8_end := goodIn_r _ [19, 11, 2, 3, 4, 20, 21, 22, 23, 24, 25, 26, 27, 28, 29, 30, 31, 32, 33, 34, 35, 36, 37, 38] (by decide +kernel) (by decide +kernel)
set_option maxRecDepth 20000 in
theorem gX8_commit_X8_end : GoodIn wsX8_commit (wsV RX8 112 RX8 yX8_end wsX8_end) := goodIn_app (goodIn_of _ (by decide +kernel)) ggX8_commit_X8_end
theorem dX8_commit_0 : decode cX8_commit 0 = .ok (.aload_n 0, 1) := by decide +kernel
theorem dX8_commit_1 : decode cX8_commit 1 = .ok (.iload_n 1, 1) := by decide +kernel
theorem dX8_commit_2 : decode cX8_commit 2 = .ok (.invokevirtual 68, 3) := by decide +kernel
theorem dX8_commit_5 : decode cX8_commit 5 = .ok (.ifCond .eq 11, 3) := by decide +kernel
theorem dX8_commit_8 : decode cX8_commit 8 = .ok (.aload_n 0, 1) := by decide +kernel
theorem dX8_commit_9 : decode cX8_commit 9 = .ok (.iload_n 1, 1) := by decide +kernel
theorem dX8_commit_10 : decode cX8_commit 10 = .ok (.invokevirtual 106, 3) := by decide +kernel
theorem dX8_commit_13 : decode cX8_commit 13 = .ok (.ifCond .le 5, 3) := by decide +kernel
theorem dX8_commit_16 : decode cX8_commit 16 = .ok (.iconst (-1), 1) := by decide +kernel
theorem dX8_commit_17 : decode cX8_commit 17 = .ok (.ireturn, 1) := by decide +kernel
theorem dX8_commit_18 : decode cX8_commit 18 = .ok (.iconst 0, 1) := by decide +kernel
theorem dX8_commit_19 : decode cX8_commit 19 = .ok (.istore_n 2, 1) := by decide +kernel
theorem dX8_commit_20 : decode cX8_commit 20 = .ok (.aload_n 0, 1) := by decide +kernel
theorem dX8_commit_21 : decode cX8_commit 21 = .ok (.getfield 24, 3) := by decide +kernel
theorem dX8_commit_24 : decode cX8_commit 24 = .ok (.iload_n 1, 1) := by decide +kernel
theorem dX8_commit_25 : decode cX8_commit 25 = .ok (.iaload, 1) := by decide +kernel
theorem dX8_commit_26 : decode cX8_commit 26 = .ok (.istore_n 3, 1) := by decide +kernel
theorem dX8_commit_27 : decode cX8_commit 27 = .ok (.iconst 0, 1) := by decide +kernel
theorem dX8_commit_28 : decode cX8_commit 28 = .ok (.istore 4, 2) := by decide +kernel
theorem dX8_commit_30 : decode cX8_commit 30 = .ok (.iload 4, 2) := by decide +kernel
theorem dX8_commit_32 : decode cX8_commit 32 = .ok (.sipush 520, 3) := by decide +kernel
theorem dX8_commit_35 : decode cX8_commit 35 = .ok (.if_icmp .ge 105, 3) := by decide +kernel
theorem dX8_commit_38 : decode cX8_commit 38 = .ok (.sipush 520, 3) := by decide +kernel
theorem dX8_commit_41 : decode cX8_commit 41 = .ok (.iload_n 1, 1) := by decide +kernel
theorem dX8_commit_42 : decode cX8_commit 42 = .ok (.imul, 1) := by decide +kernel
theorem dX8_commit_43 : decode cX8_commit 43 = .ok (.iload 4, 2) := by decide +kernel
theorem dX8_commit_45 : decode cX8_commit 45 = .ok (.iadd, 1) := by decide +kernel
theorem dX8_commit_46 : decode cX8_commit 46 = .ok (.istore 5, 2) := by decide +kernel
theorem dX8_commit_48 : decode cX8_commit 48 = .ok (.sipush 520, 3) := by decide +kernel
theorem dX8_commit_51 : decode cX8_commit 51 = .ok (.iload_n 3, 1) := by decide +kernel
theorem dX8_commit_52 : decode cX8_commit 52 = .ok (.imul, 1) := by decide +kernel
theorem dX8_commit_53 : decode cX8_commit 53 = .ok (.iload 4, 2) := by decide +kernel
theorem dX8_commit_55 : decode cX8_commit 55 = .ok (.iadd, 1) := by decide +kernel
theorem dX8_commit_56 : decode cX8_commit 56 = .ok (.istore 6, 2) := by decide +kernel
theorem dX8_commit_58 : decode cX8_commit 58 = .ok (.aload_n 0, 1) := by decide +kernel
theorem dX8_commit_59 : decode cX8_commit 59 = .ok (.getfield 14, 3) := by decide +kernel
theorem dX8_commit_62 : decode cX8_commit 62 = .ok (.iload 5, 2) := by decide +kernel
theorem dX8_commit_64 : decode cX8_commit 64 = .ok (.baload, 1) := by decide +kernel
theorem dX8_commit_65 : decode cX8_commit 65 = .ok (.ifCond .eq 34, 3) := by decide +kernel
theorem dX8_commit_68 : decode cX8_commit 68 = .ok (.iinc 2 1, 3) := by decide +kernel
theorem dX8_commit_71 : decode cX8_commit 71 = .ok (.aload_n 0, 1) := by decide +kernel
theorem dX8_commit_72 : decode cX8_commit 72 = .ok (.getfield 14, 3) := by decide +kernel
theorem dX8_commit_75 : decode cX8_commit 75 = .ok (.iload 6, 2) := by decide +kernel
theorem dX8_commit_77 : decode cX8_commit 77 = .ok (.aload_n 0, 1) := by decide +kernel
theorem dX8_commit_78 : decode cX8_commit 78 = .ok (.getfield 14, 3) := by decide +kernel
theorem dX8_commit_81 : decode cX8_commit 81 = .ok (.iload 5, 2) := by decide +kernel
theorem dX8_commit_83 : decode cX8_commit 83 = .ok (.baload, 1) := by decide +kernel
theorem dX8_commit_84 : decode cX8_commit 84 = .ok (.bastore, 1) := by decide +kernel
theorem dX8_commit_85 : decode cX8_commit 85 = .ok (.aload_n 0, 1) := by decide +kernel
theorem dX8_commit_86 : decode cX8_commit 86 = .ok (.getfield 18, 3) := by decide +kernel
theorem dX8_commit_89 : decode cX8_commit 89 = .ok (.iload 6, 2) := by decide +kernel
theorem dX8_commit_91 : decode cX8_commit 91 = .ok (.aload_n 0, 1) := by decide +kernel
theorem dX8_commit_92 : decode cX8_commit 92 = .ok (.getfield 18, 3) := by decide +kernel
theorem dX8_commit_95 : decode cX8_commit 95 = .ok (.iload 5, 2) := by decide +kernel
theorem dX8_commit_97 : decode cX8_commit 97 = .ok (.iaload, 1) := by decide +kernel
theorem dX8_commit_98 : decode cX8_commit 98 = .ok (.iastore, 1) := by decide +kernel
theorem dX8_commit_99 : decode cX8_commit 99 = .ok (.iload_n 3, 1) := by decide +kernel
theorem dX8_commit_100 : decode cX8_commit 100 = .ok (.ifCond .eq 34, 3) := by decide +kernel
theorem dX8_commit_103 : decode cX8_commit 103 = .ok (.aload_n 0, 1) := by decide +kernel
theorem dX8_commit_104 : decode cX8_commit 104 = .ok (.getfield 21, 3) := by decide +kernel
theorem dX8_commit_107 : decode cX8_commit 107 = .ok (.iload 5, 2) := by decide +kernel
theorem dX8_commit_109 : decode cX8_commit 109 = .ok (.baload, 1) := by decide +kernel
theorem dX8_commit_110 : decode cX8_commit 110 = .ok (.aload_n 0, 1) := by decide +kernel
theorem dX8_commit_111 : decode cX8_commit 111 = .ok (.getfield 21, 3) := by decide +kernel
theorem dX8_commit_114 : decode cX8_commit 114 = .ok (.iload 6, 2) := by decide +kernel
theorem dX8_commit_116 : decode cX8_commit 116 = .ok (.baload, 1) := by decide +kernel
theorem dX8_commit_117 : decode cX8_commit 117 = .ok (.if_icmp .le 17, 3) := by decide +kernel
theorem dX8_commit_120 : decode cX8_commit 120 = .ok (.aload_n 0, 1) := by decide +kernel
theorem dX8_commit_121 : decode cX8_commit 121 = .ok (.getfield 21, 3) := by decide +kernel
theorem dX8_commit_124 : decode cX8_commit 124 = .ok (.iload 6, 2) := by decide +kernel
theorem dX8_commit_126 : decode cX8_commit 126 = .ok (.aload_n 0, 1) := by decide +kernel
theorem dX8_commit_127 : decode cX8_commit 127 = .ok (.getfield 21, 3) := by decide +kernel
theorem dX8_commit_130 : decode cX8_commit 130 = .ok (.iload 5, 2) := by decide +kernel
theorem dX8_commit_132 : decode cX8_commit 132 = .ok (.baload, 1) := by decide +kernel
theorem dX8_commit_133 : decode cX8_commit 133 = .ok (.bastore, 1) := by decide +kernel
theorem dX8_commit_134 : decode cX8_commit 134 = .ok (.iinc 4 1, 3) := by decide +kernel
theorem dX8_commit_137 : decode cX8_commit 137 = .ok (.goto (-107), 3) := by decide +kernel
theorem dX8_commit_140 : decode cX8_commit 140 = .ok (.aload_n 0, 1) := by decide +kernel
theorem dX8_commit_141 : decode cX8_commit 141 = .ok (.iload_n 1, 1) := by decide +kernel
theorem dX8_commit_142 : decode cX8_commit 142 = .ok (.iconst 1, 1) := by decide +kernel
theorem dX8_commit_143 : decode cX8_commit 143 = .ok (.invokevirtual 112, 3) := by decide +kernel
theorem dX8_commit_146 : decode cX8_commit 146 = .ok (.iload_n 2, 1) := by decide +kernel
theorem dX8_commit_147 : decode cX8_commit 147 = .ok (.ireturn, 1) := by decide +kernel
set_option maxRecDepth 20000 in
theorem ggX8_abort_X8_isActive : GoodIn wsX8_abort wsX8_isActive := goodIn_r _ [6, 1, 7, 23, 24, 25, 26, 27, 28, 29, 30, 31, 32, 33, 34, 35, 36, 37, 38] (by decide +kernel) (by decide +kernel)
set_option maxRecDepth 20000 in
theorem gX8_abort_X8_isActive : GoodIn wsX8_abort (wsV RX8 68 RX8 yX8_isActive wsX8_isActive) := goodIn_app (goodIn_of _ (by decide +kernel)) ggX8_abort_X8_isActive
set_option maxRecDepth 20000 in
theorem ggX8_abort_X8_isAncestor : GoodIn wsX8_abort wsX8_isAncestor := goodIn_r _ [11, 12, 23, 24, 25, 26, 27, 28, 29, 30, 31, 32, 33, 34, 35, 36, 37, 38] (by decide +kernel) (by decide +kernel)
set_option maxRecDepth 20000 in
theorem gX8_abort_X8_isAncestor : GoodIn wsX8_abort (wsV RX8 72 RX8 yX8_isAncestor wsX8_isAncestor) := goodIn_app (goodIn_of _ (by decide +kernel)) ggX8_abort_X8_isAncestor
set_option maxRecDepth 20000 in
theorem ggX8_abort_X8_end : GoodIn wsX8_abort wsX8_end := goodIn_r _ [16, 7, 17, 18, 19, 20, 21, 22, 23, 24, 25, 26, 27, 28, 29, 30, 31, 32, 33, 34, 35, 36, 37, 38] (by decide +kernel) (by decide +kernel)
set_option maxRecDepth 20000 in
theorem gX8_abort_X8_end : GoodIn wsX8_abort (wsV RX8 112 RX8 yX8_end wsX8_end) := goodIn_app (goodIn_of _ (by decide +kernel)) ggX8_abort_X8_end
theorem dX8_abort_0 : decode cX8_abort 0 = .ok (.aload_n 0, 1) := by decide +kernel
theorem dX8_abort_1 : decode cX8_abort 1 = .ok (.iload_n 1, 1) := by decide +kernel
theorem dX8_abort_2 : decode cX8_abort 2 = .ok (.invokevirtual 68, 3) := by decide +kernel
theorem dX8_abort_5 : decode cX8_abort 5 = .ok (.ifCond .ne 5, 3) := by decide +kernel
theorem dX8_abort_8 : decode cX8_abort 8 = .ok (.iconst (-1), 1) := by decide +kernel
theorem dX8_abort_9 : decode cX8_abort 9 = .ok (.ireturn, 1) := by decide +kernel
theorem dX8_abort_10 : decode cX8_abort 10 = .ok (.iconst 0, 1) := by decide +kernel
theorem dX8_abort_11 : decode cX8_abort 11 = .ok (.istore_n 2, 1) := by decide +kernel
theorem dX8_abort_12 : decode cX8_abort 12 = .ok (.aload_n 0, 1) := by decide +kernel
theorem dX8_abort_13 : decode cX8_abort 13 = .ok (.getfield 53, 3) := by decide +kernel
theorem dX8_abort_16 : decode cX8_abort 16 = .ok (.istore_n 3, 1) := by decide +kernel
theorem dX8_abort_17 : decode cX8_abort 17 = .ok (.iload_n 3, 1) := by decide +kernel
theorem dX8_abort_18 : decode cX8_abort 18 = .ok (.ifCond .le 40, 3) := by decide +kernel
theorem dX8_abort_21 : decode cX8_abort 21 = .ok (.aload_n 0, 1) := by decide +kernel
theorem dX8_abort_22 : decode cX8_abort 22 = .ok (.iload_n 3, 1) := by decide +kernel
theorem dX8_abort_23 : decode cX8_abort 23 = .ok (.invokevirtual 68, 3) := by decide +kernel
theorem dX8_abort_26 : decode cX8_abort 26 = .ok (.ifCond .eq 26, 3) := by decide +kernel
theorem dX8_abort_29 : decode cX8_abort 29 = .ok (.iload_n 3, 1) := by decide +kernel
theorem dX8_abort_30 : decode cX8_abort 30 = .ok (.iload_n 1, 1) := by decide +kernel
theorem dX8_abort_31 : decode cX8_abort 31 = .ok (.if_icmp .eq 12, 3) := by decide +kernel
theorem dX8_abort_34 : decode cX8_abort 34 = .ok (.aload_n 0, 1) := by decide +kernel
theorem dX8_abort_35 : decode cX8_abort 35 = .ok (.iload_n 1, 1) := by decide +kernel
theorem dX8_abort_36 : decode cX8_abort 36 = .ok (.iload_n 3, 1) := by decide +kernel
theorem dX8_abort_37 : decode cX8_abort 37 = .ok (.invokevirtual 72, 3) := by decide +kernel
theorem dX8_abort_40 : decode cX8_abort 40 = .ok (.ifCond .eq 12, 3) := by decide +kernel
theorem dX8_abort_43 : decode cX8_abort 43 = .ok (.aload_n 0, 1) := by decide +kernel
theorem dX8_abort_44 : decode cX8_abort 44 = .ok (.iload_n 3, 1) := by decide +kernel
theorem dX8_abort_45 : decode cX8_abort 45 = .ok (.iconst 2, 1) := by decide +kernel
theorem dX8_abort_46 : decode cX8_abort 46 = .ok (.invokevirtual 112, 3) := by decide +kernel
theorem dX8_abort_49 : decode cX8_abort 49 = .ok (.iinc 2 1, 3) := by decide +kernel
theorem dX8_abort_52 : decode cX8_abort 52 = .ok (.iinc 3 (-1), 3) := by decide +kernel
theorem dX8_abort_55 : decode cX8_abort 55 = .ok (.goto (-38), 3) := by decide +kernel
theorem dX8_abort_58 : decode cX8_abort 58 = .ok (.iload_n 2, 1) := by decide +kernel
theorem dX8_abort_59 : decode cX8_abort 59 = .ok (.ireturn, 1) := by decide +kernel
theorem dX8_state_0 : decode cX8_state 0 = .ok (.iload_n 1, 1) := by decide +kernel
theorem dX8_state_1 : decode cX8_state 1 = .ok (.iconst 1, 1) := by decide +kernel
theorem dX8_state_2 : decode cX8_state 2 = .ok (.if_icmp .lt 11, 3) := by decide +kernel
theorem dX8_state_5 : decode cX8_state 5 = .ok (.iload_n 1, 1) := by decide +kernel
theorem dX8_state_6 : decode cX8_state 6 = .ok (.aload_n 0, 1) := by decide +kernel
theorem dX8_state_7 : decode cX8_state 7 = .ok (.getfield 53, 3) := by decide +kernel
theorem dX8_state_10 : decode cX8_state 10 = .ok (.if_icmp .le 7, 3) := by decide +kernel
theorem dX8_state_13 : decode cX8_state 13 = .ok (.iconst (-1), 1) := by decide +kernel
theorem dX8_state_14 : decode cX8_state 14 = .ok (.goto 9, 3) := by decide +kernel
theorem dX8_state_17 : decode cX8_state 17 = .ok (.aload_n 0, 1) := by decide +kernel
theorem dX8_state_18 : decode cX8_state 18 = .ok (.getfield 27, 3) := by decide +kernel
theorem dX8_state_21 : decode cX8_state 21 = .ok (.iload_n 1, 1) := by decide +kernel
theorem dX8_state_22 : decode cX8_state 22 = .ok (.iaload, 1) := by decide +kernel
theorem dX8_state_23 : decode cX8_state 23 = .ok (.ireturn, 1) := by decide +kernel
set_option maxRecDepth 20000 in
theorem ggX8_told_X8_children : GoodIn wsX8_told wsX8_children := goodIn_r _ [9, 1, 2, 10, 11, 12, 8, 13, 14, 22, 23, 24, 25, 26, 27, 28, 29, 30, 31, 32, 33, 34, 35, 36, 37] (by decide +kernel) (by decide +kernel)
set_option maxRecDepth 20000 in
theorem gX8_told_X8_children : GoodIn wsX8_told (wsV RX8 106 RX8 yX8_children wsX8_children) := goodIn_app (goodIn_of _ (by decide +kernel)) ggX8_told_X8_children
set_option maxRecDepth 20000 in
theorem ggX8_told_X8_marksOf : GoodIn wsX8_told wsX8_marksOf := goodIn_r _ [18, 19, 20, 21, 22, 23, 24, 25, 26, 27, 28, 29, 30, 31, 32, 33, 34, 35, 36, 37] (by decide +kernel) (by decide +kernel)
set_option maxRecDepth 20000 in
theorem gX8_told_X8_marksOf : GoodIn wsX8_told (wsV RX8 100 RX8 yX8_marksOf wsX8_marksOf) := goodIn_app (goodIn_of _ (by decide +kernel)) ggX8_told_X8_marksOf
theorem dX8_told_0 : decode cX8_told 0 = .ok (.iload_n 1, 1) := by decide +kernel
theorem dX8_told_1 : decode cX8_told 1 = .ok (.iconst 1, 1) := by decide +kernel
theorem dX8_told_2 : decode cX8_told 2 = .ok (.if_icmp .lt 20, 3) := by decide +kernel
theorem dX8_told_5 : decode cX8_told 5 = .ok (.iload_n 1, 1) := by decide +kernel
theorem dX8_told_6 : decode cX8_told 6 = .ok (.aload_n 0, 1) := by decide +kernel
theorem dX8_told_7 : decode cX8_told 7 = .ok (.getfield 53, 3) := by decide +kernel
theorem dX8_told_10 : decode cX8_told 10 = .ok (.if_icmp .gt 12, 3) := by decide +kernel
theorem dX8_told_13 : decode cX8_told 13 = .ok (.iload_n 2, 1) := by decide +kernel
theorem dX8_told_14 : decode cX8_told 14 = .ok (.ifCond .lt 8, 3) := by decide +kernel
theorem dX8_told_17 : decode cX8_told 17 = .ok (.iload_n 2, 1) := by decide +kernel
theorem dX8_told_18 : decode cX8_told 18 = .ok (.iconst 5, 1) := by decide +kernel
theorem dX8_told_19 : decode cX8_told 19 = .ok (.if_icmp .le 5, 3) := by decide +kernel
theorem dX8_told_22 : decode cX8_told 22 = .ok (.iconst (-1), 1) := by decide +kernel
theorem dX8_told_23 : decode cX8_told 23 = .ok (.ireturn, 1) := by decide +kernel
theorem dX8_told_24 : decode cX8_told 24 = .ok (.iload_n 2, 1) := by decide +kernel
theorem dX8_told_25 : decode cX8_told 25 = .ok (.ifCond .ne 10, 3) := by decide +kernel
theorem dX8_told_28 : decode cX8_told 28 = .ok (.aload_n 0, 1) := by decide +kernel
theorem dX8_told_29 : decode cX8_told 29 = .ok (.getfield 24, 3) := by decide +kernel
theorem dX8_told_32 : decode cX8_told 32 = .ok (.iload_n 1, 1) := by decide +kernel
theorem dX8_told_33 : decode cX8_told 33 = .ok (.iaload, 1) := by decide +kernel
theorem dX8_told_34 : decode cX8_told 34 = .ok (.ireturn, 1) := by decide +kernel
theorem dX8_told_35 : decode cX8_told 35 = .ok (.iload_n 2, 1) := by decide +kernel
theorem dX8_told_36 : decode cX8_told 36 = .ok (.iconst 1, 1) := by decide +kernel
theorem dX8_told_37 : decode cX8_told 37 = .ok (.if_icmp .ne 9, 3) := by decide +kernel
theorem dX8_told_40 : decode cX8_told 40 = .ok (.aload_n 0, 1) := by decide +kernel
theorem dX8_told_41 : decode cX8_told 41 = .ok (.iload_n 1, 1) := by decide +kernel
theorem dX8_told_42 : decode cX8_told 42 = .ok (.invokevirtual 106, 3) := by decide +kernel
theorem dX8_told_45 : decode cX8_told 45 = .ok (.ireturn, 1) := by decide +kernel
theorem dX8_told_46 : decode cX8_told 46 = .ok (.iload_n 2, 1) := by decide +kernel
theorem dX8_told_47 : decode cX8_told 47 = .ok (.iconst 2, 1) := by decide +kernel
theorem dX8_told_48 : decode cX8_told 48 = .ok (.if_icmp .ne 9, 3) := by decide +kernel
theorem dX8_told_51 : decode cX8_told 51 = .ok (.aload_n 0, 1) := by decide +kernel
theorem dX8_told_52 : decode cX8_told 52 = .ok (.iload_n 1, 1) := by decide +kernel
theorem dX8_told_53 : decode cX8_told 53 = .ok (.invokevirtual 100, 3) := by decide +kernel
theorem dX8_told_56 : decode cX8_told 56 = .ok (.ireturn, 1) := by decide +kernel
theorem dX8_told_57 : decode cX8_told 57 = .ok (.iconst 0, 1) := by decide +kernel
theorem dX8_told_58 : decode cX8_told 58 = .ok (.istore_n 3, 1) := by decide +kernel
theorem dX8_told_59 : decode cX8_told 59 = .ok (.iconst 0, 1) := by decide +kernel
theorem dX8_told_60 : decode cX8_told 60 = .ok (.istore 4, 2) := by decide +kernel
theorem dX8_told_62 : decode cX8_told 62 = .ok (.iload 4, 2) := by decide +kernel
theorem dX8_told_64 : decode cX8_told 64 = .ok (.sipush 520, 3) := by decide +kernel
theorem dX8_told_67 : decode cX8_told 67 = .ok (.if_icmp .ge 65, 3) := by decide +kernel
theorem dX8_told_70 : decode cX8_told 70 = .ok (.sipush 520, 3) := by decide +kernel
theorem dX8_told_73 : decode cX8_told 73 = .ok (.iload_n 1, 1) := by decide +kernel
theorem dX8_told_74 : decode cX8_told 74 = .ok (.imul, 1) := by decide +kernel
theorem dX8_told_75 : decode cX8_told 75 = .ok (.iload 4, 2) := by decide +kernel
theorem dX8_told_77 : decode cX8_told 77 = .ok (.iadd, 1) := by decide +kernel
theorem dX8_told_78 : decode cX8_told 78 = .ok (.istore 5, 2) := by decide +kernel
theorem dX8_told_80 : decode cX8_told 80 = .ok (.iload_n 3, 1) := by decide +kernel
theorem dX8_told_81 : decode cX8_told 81 = .ok (.iload_n 2, 1) := by decide +kernel
theorem dX8_told_82 : decode cX8_told 82 = .ok (.iconst 3, 1) := by decide +kernel
theorem dX8_told_83 : decode cX8_told 83 = .ok (.if_icmp .ne 16, 3) := by decide +kernel
theorem dX8_told_86 : decode cX8_told 86 = .ok (.aload_n 0, 1) := by decide +kernel
theorem dX8_told_87 : decode cX8_told 87 = .ok (.getfield 14, 3) := by decide +kernel
theorem dX8_told_90 : decode cX8_told 90 = .ok (.iload 5, 2) := by decide +kernel
theorem dX8_told_92 : decode cX8_told 92 = .ok (.baload, 1) := by decide +kernel
theorem dX8_told_93 : decode cX8_told 93 = .ok (.ifCond .eq 30, 3) := by decide +kernel
theorem dX8_told_96 : decode cX8_told 96 = .ok (.goto 23, 3) := by decide +kernel
theorem dX8_told_99 : decode cX8_told 99 = .ok (.aload_n 0, 1) := by decide +kernel
theorem dX8_told_100 : decode cX8_told 100 = .ok (.getfield 21, 3) := by decide +kernel
theorem dX8_told_103 : decode cX8_told 103 = .ok (.iload 5, 2) := by decide +kernel
theorem dX8_told_105 : decode cX8_told 105 = .ok (.baload, 1) := by decide +kernel
theorem dX8_told_106 : decode cX8_told 106 = .ok (.iload_n 2, 1) := by decide +kernel
theorem dX8_told_107 : decode cX8_told 107 = .ok (.iconst 4, 1) := by decide +kernel
theorem dX8_told_108 : decode cX8_told 108 = .ok (.if_icmp .ne 7, 3) := by decide +kernel
theorem dX8_told_111 : decode cX8_told 111 = .ok (.iconst 1, 1) := by decide +kernel
theorem dX8_told_112 : decode cX8_told 112 = .ok (.goto 4, 3) := by decide +kernel
theorem dX8_told_115 : decode cX8_told 115 = .ok (.iconst 2, 1) := by decide +kernel
theorem dX8_told_116 : decode cX8_told 116 = .ok (.if_icmp .ne 7, 3) := by decide +kernel
theorem dX8_told_119 : decode cX8_told 119 = .ok (.iconst 1, 1) := by decide +kernel
theorem dX8_told_120 : decode cX8_told 120 = .ok (.goto 4, 3) := by decide +kernel
theorem dX8_told_123 : decode cX8_told 123 = .ok (.iconst 0, 1) := by decide +kernel
theorem dX8_told_124 : decode cX8_told 124 = .ok (.iadd, 1) := by decide +kernel
theorem dX8_told_125 : decode cX8_told 125 = .ok (.istore_n 3, 1) := by decide +kernel
theorem dX8_told_126 : decode cX8_told 126 = .ok (.iinc 4 1, 3) := by decide +kernel
theorem dX8_told_129 : decode cX8_told 129 = .ok (.goto (-67), 3) := by decide +kernel
theorem dX8_told_132 : decode cX8_told 132 = .ok (.iload_n 3, 1) := by decide +kernel
theorem dX8_told_133 : decode cX8_told 133 = .ok (.ireturn, 1) := by decide +kernel
set_option maxRecDepth 20000 in
theorem ggX8_held_X8_isActive : GoodIn wsX8_held wsX8_isActive := goodIn_r _ [6, 7, 8, 15, 16, 17, 18, 19, 20, 21, 22, 23, 24, 25, 26, 27, 28, 29, 30] (by decide +kernel) (by decide +kernel)
set_option maxRecDepth 20000 in
theorem gX8_held_X8_isActive : GoodIn wsX8_held (wsV RX8 68 RX8 yX8_isActive wsX8_isActive) := goodIn_app (goodIn_of _ (by decide +kernel)) ggX8_held_X8_isActive
set_option maxRecDepth 20000 in
theorem ggX8_held_X8_find : GoodIn wsX8_held wsX8_find := goodIn_r _ [12, 13, 14, 15, 16, 17, 18, 19, 20, 21, 22, 23, 24, 25, 26, 27, 28, 29, 30] (by decide +kernel) (by decide +kernel)
set_option maxRecDepth 20000 in
theorem gX8_held_X8_find : GoodIn wsX8_held (wsV RX8 60 RX8 yX8_find wsX8_find) := goodIn_app (goodIn_of _ (by decide +kernel)) ggX8_held_X8_find
theorem dX8_held_0 : decode cX8_held 0 = .ok (.aload_n 0, 1) := by decide +kernel
theorem dX8_held_1 : decode cX8_held 1 = .ok (.iload_n 1, 1) := by decide +kernel
theorem dX8_held_2 : decode cX8_held 2 = .ok (.invokevirtual 68, 3) := by decide +kernel
theorem dX8_held_5 : decode cX8_held 5 = .ok (.ifCond .ne 5, 3) := by decide +kernel
theorem dX8_held_8 : decode cX8_held 8 = .ok (.iconst (-1), 1) := by decide +kernel
theorem dX8_held_9 : decode cX8_held 9 = .ok (.ireturn, 1) := by decide +kernel
theorem dX8_held_10 : decode cX8_held 10 = .ok (.aload_n 0, 1) := by decide +kernel
theorem dX8_held_11 : decode cX8_held 11 = .ok (.iload_n 2, 1) := by decide +kernel
theorem dX8_held_12 : decode cX8_held 12 = .ok (.invokevirtual 60, 3) := by decide +kernel
theorem dX8_held_15 : decode cX8_held 15 = .ok (.istore_n 3, 1) := by decide +kernel
theorem dX8_held_16 : decode cX8_held 16 = .ok (.iload_n 3, 1) := by decide +kernel
theorem dX8_held_17 : decode cX8_held 17 = .ok (.iconst (-1), 1) := by decide +kernel
theorem dX8_held_18 : decode cX8_held 18 = .ok (.if_icmp .ne 7, 3) := by decide +kernel
theorem dX8_held_21 : decode cX8_held 21 = .ok (.iconst 0, 1) := by decide +kernel
theorem dX8_held_22 : decode cX8_held 22 = .ok (.goto 15, 3) := by decide +kernel
theorem dX8_held_25 : decode cX8_held 25 = .ok (.aload_n 0, 1) := by decide +kernel
theorem dX8_held_26 : decode cX8_held 26 = .ok (.getfield 21, 3) := by decide +kernel
theorem dX8_held_29 : decode cX8_held 29 = .ok (.sipush 520, 3) := by decide +kernel
theorem dX8_held_32 : decode cX8_held 32 = .ok (.iload_n 1, 1) := by decide +kernel
theorem dX8_held_33 : decode cX8_held 33 = .ok (.imul, 1) := by decide +kernel
theorem dX8_held_34 : decode cX8_held 34 = .ok (.iload_n 3, 1) := by decide +kernel
theorem dX8_held_35 : decode cX8_held 35 = .ok (.iadd, 1) := by decide +kernel
theorem dX8_held_36 : decode cX8_held 36 = .ok (.baload, 1) := by decide +kernel
theorem dX8_held_37 : decode cX8_held 37 = .ok (.ireturn, 1) := by decide +kernel
set_option maxRecDepth 20000 in
theorem ggX8_blocker_X8_isActive : GoodIn wsX8_blocker wsX8_isActive := goodIn_r _ [5, 6, 7, 28, 29, 30, 31, 32, 33, 34, 35, 36, 37, 38, 39, 40, 41, 42, 43] (by decide +kernel) (by decide +kernel)
set_option maxRecDepth 20000 in
theorem gX8_blocker_X8_isActive : GoodIn wsX8_blocker (wsV RX8 68 RX8 yX8_isActive wsX8_isActive) := goodIn_app (goodIn_of _ (by decide +kernel)) ggX8_blocker_X8_isActive
set_option maxRecDepth 20000 in
theorem ggX8_blocker_X8_find : GoodIn wsX8_blocker wsX8_find := goodIn_r _ [11, 12, 13, 28, 29, 30, 31, 32, 33, 34, 35, 36, 37, 38, 39, 40, 41, 42, 43] (by decide +kernel) (by decide +kernel)
set_option maxRecDepth 20000 in
theorem gX8_blocker_X8_find : GoodIn wsX8_blocker (wsV RX8 60 RX8 yX8_find wsX8_find) := goodIn_app (goodIn_of _ (by decide +kernel)) ggX8_blocker_X8_find
set_option maxRecDepth 20000 in
theorem ggX8_blocker_X8_first : GoodIn wsX8_blocker wsX8_first := goodIn_r _ [17, 6, 18, 19, 20, 4, 21, 22, 1, 2, 3, 5, 7, 23, 24, 25, 26, 27, 28, 29, 30, 31, 32, 33, 34, 35, 36, 37, 38, 39, 40, 41, 42, 43] (by decide +kernel) (by decide +kernel)
set_option maxRecDepth 20000 in
theorem gX8_blocker_X8_first : GoodIn wsX8_blocker (wsV RX8 80 RX8 yX8_first wsX8_first) := goodIn_app (goodIn_of _ (by decide +kernel)) ggX8_blocker_X8_first
theorem dX8_blocker_0 : decode cX8_blocker 0 = .ok (.aload_n 0, 1) := by decide +kernel
theorem dX8_blocker_1 : decode cX8_blocker 1 = .ok (.iload_n 1, 1) := by decide +kernel
theorem dX8_blocker_2 : decode cX8_blocker 2 = .ok (.invokevirtual 68, 3) := by decide +kernel
theorem dX8_blocker_5 : decode cX8_blocker 5 = .ok (.ifCond .eq 17, 3) := by decide +kernel
theorem dX8_blocker_8 : decode cX8_blocker 8 = .ok (.aload_n 0, 1) := by decide +kernel
theorem dX8_blocker_9 : decode cX8_blocker 9 = .ok (.iload_n 1, 1) := by decide +kernel
theorem dX8_blocker_10 : decode cX8_blocker 10 = .ok (.aload_n 0, 1) := by decide +kernel
theorem dX8_blocker_11 : decode cX8_blocker 11 = .ok (.iload_n 2, 1) := by decide +kernel
theorem dX8_blocker_12 : decode cX8_blocker 12 = .ok (.invokevirtual 60, 3) := by decide +kernel
theorem dX8_blocker_15 : decode cX8_blocker 15 = .ok (.iload_n 3, 1) := by decide +kernel
theorem dX8_blocker_16 : decode cX8_blocker 16 = .ok (.invokevirtual 80, 3) := by decide +kernel
theorem dX8_blocker_19 : decode cX8_blocker 19 = .ok (.goto 4, 3) := by decide +kernel
theorem dX8_blocker_22 : decode cX8_blocker 22 = .ok (.iconst (-1), 1) := by decide +kernel
theorem dX8_blocker_23 : decode cX8_blocker 23 = .ok (.ireturn, 1) := by decide +kernel
set_option maxRecDepth 20000 in
theorem ggX8_waits_X8_isActive : GoodIn wsX8_waits wsX8_isActive := goodIn_r _ [7, 8, 9, 24, 25, 26, 27, 28, 29, 30, 31, 32, 33, 34, 35, 36, 37, 38, 39] (by decide +kernel) (by decide +kernel)
set_option maxRecDepth 20000 in
theorem gX8_waits_X8_isActive : GoodIn wsX8_waits (wsV RX8 68 RX8 yX8_isActive wsX8_isActive) := goodIn_app (goodIn_of _ (by decide +kernel)) ggX8_waits_X8_isActive
set_option maxRecDepth 20000 in
theorem ggX8_waits_X8_first : GoodIn wsX8_waits wsX8_first := goodIn_r _ [13, 8, 14, 15, 16, 6, 17, 18, 3, 4, 5, 7, 9, 19, 20, 21, 22, 23, 24, 25, 26, 27, 28, 29, 30, 31, 32, 33, 34, 35, 36, 37, 38, 39] (by decide +kernel) (by decide +kernel)
set_option maxRecDepth 20000 in
theorem gX8_waits_X8_first : GoodIn wsX8_waits (wsV RX8 80 RX8 yX8_first wsX8_first) := goodIn_app (goodIn_of _ (by decide +kernel)) ggX8_waits_X8_first
theorem dX8_waits_0 : decode cX8_waits 0 = .ok (.aload_n 0, 1) := by decide +kernel
theorem dX8_waits_1 : decode cX8_waits 1 = .ok (.iload_n 1, 1) := by decide +kernel
theorem dX8_waits_2 : decode cX8_waits 2 = .ok (.invokevirtual 68, 3) := by decide +kernel
theorem dX8_waits_5 : decode cX8_waits 5 = .ok (.ifCond .eq 23, 3) := by decide +kernel
theorem dX8_waits_8 : decode cX8_waits 8 = .ok (.aload_n 0, 1) := by decide +kernel
theorem dX8_waits_9 : decode cX8_waits 9 = .ok (.iload_n 1, 1) := by decide +kernel
theorem dX8_waits_10 : decode cX8_waits 10 = .ok (.aload_n 0, 1) := by decide +kernel
theorem dX8_waits_11 : decode cX8_waits 11 = .ok (.getfield 30, 3) := by decide +kernel
theorem dX8_waits_14 : decode cX8_waits 14 = .ok (.iload_n 1, 1) := by decide +kernel
theorem dX8_waits_15 : decode cX8_waits 15 = .ok (.iaload, 1) := by decide +kernel
theorem dX8_waits_16 : decode cX8_waits 16 = .ok (.aload_n 0, 1) := by decide +kernel
theorem dX8_waits_17 : decode cX8_waits 17 = .ok (.getfield 33, 3) := by decide +kernel
theorem dX8_waits_20 : decode cX8_waits 20 = .ok (.iload_n 1, 1) := by decide +kernel
theorem dX8_waits_21 : decode cX8_waits 21 = .ok (.baload, 1) := by decide +kernel
theorem dX8_waits_22 : decode cX8_waits 22 = .ok (.invokevirtual 80, 3) := by decide +kernel
theorem dX8_waits_25 : decode cX8_waits 25 = .ok (.goto 4, 3) := by decide +kernel
theorem dX8_waits_28 : decode cX8_waits 28 = .ok (.iconst (-1), 1) := by decide +kernel
theorem dX8_waits_29 : decode cX8_waits 29 = .ok (.ireturn, 1) := by decide +kernel
set_option maxRecDepth 20000 in
theorem ggX8_ring_X8_reach : GoodIn wsX8_ring wsX8_reach := goodIn_r _ [7, 1, 2, 8, 9, 10, 11, 12, 6, 13, 14, 15, 16, 17, 18, 19, 20, 21, 22, 23, 24, 25, 26, 27, 28, 29, 30, 31, 32, 33, 34, 35, 36, 37, 38, 39, 40] (by decide +kernel) (by decide +kernel)
set_option maxRecDepth 20000 in
theorem gX8_ring_X8_reach : GoodIn wsX8_ring (wsV RX8 116 RX8 yX8_reach wsX8_reach) := goodIn_app (goodIn_of _ (by decide +kernel)) ggX8_ring_X8_reach
set_option maxRecDepth 20000 in
theorem ggX8_ring_X8_isActive : GoodIn wsX8_ring wsX8_isActive := goodIn_r _ [13, 1, 14, 25, 26, 27, 28, 29, 30, 31, 32, 33, 34, 35, 36, 37, 38, 39, 40] (by decide +kernel) (by decide +kernel)
set_option maxRecDepth 20000 in
theorem gX8_ring_X8_isActive : GoodIn wsX8_ring (wsV RX8 68 RX8 yX8_isActive wsX8_isActive) := goodIn_app (goodIn_of _ (by decide +kernel)) ggX8_ring_X8_isActive
theorem dX8_ring_0 : decode cX8_ring 0 = .ok (.iconst 1, 1) := by decide +kernel
theorem dX8_ring_1 : decode cX8_ring 1 = .ok (.istore_n 1, 1) := by decide +kernel
theorem dX8_ring_2 : decode cX8_ring 2 = .ok (.iload_n 1, 1) := by decide +kernel
theorem dX8_ring_3 : decode cX8_ring 3 = .ok (.aload_n 0, 1) := by decide +kernel
theorem dX8_ring_4 : decode cX8_ring 4 = .ok (.getfield 53, 3) := by decide +kernel
theorem dX8_ring_7 : decode cX8_ring 7 = .ok (.if_icmp .gt 56, 3) := by decide +kernel
theorem dX8_ring_10 : decode cX8_ring 10 = .ok (.iconst 0, 1) := by decide +kernel
theorem dX8_ring_11 : decode cX8_ring 11 = .ok (.istore_n 2, 1) := by decide +kernel
theorem dX8_ring_12 : decode cX8_ring 12 = .ok (.iload_n 2, 1) := by decide +kernel
theorem dX8_ring_13 : decode cX8_ring 13 = .ok (.aload_n 0, 1) := by decide +kernel
theorem dX8_ring_14 : decode cX8_ring 14 = .ok (.getfield 53, 3) := by decide +kernel
theorem dX8_ring_17 : decode cX8_ring 17 = .ok (.if_icmp .gt 16, 3) := by decide +kernel
theorem dX8_ring_20 : decode cX8_ring 20 = .ok (.aload_n 0, 1) := by decide +kernel
theorem dX8_ring_21 : decode cX8_ring 21 = .ok (.getfield 50, 3) := by decide +kernel
theorem dX8_ring_24 : decode cX8_ring 24 = .ok (.iload_n 2, 1) := by decide +kernel
theorem dX8_ring_25 : decode cX8_ring 25 = .ok (.iconst 0, 1) := by decide +kernel
theorem dX8_ring_26 : decode cX8_ring 26 = .ok (.bastore, 1) := by decide +kernel
theorem dX8_ring_27 : decode cX8_ring 27 = .ok (.iinc 2 1, 3) := by decide +kernel
theorem dX8_ring_30 : decode cX8_ring 30 = .ok (.goto (-18), 3) := by decide +kernel
theorem dX8_ring_33 : decode cX8_ring 33 = .ok (.aload_n 0, 1) := by decide +kernel
theorem dX8_ring_34 : decode cX8_ring 34 = .ok (.iload_n 1, 1) := by decide +kernel
theorem dX8_ring_35 : decode cX8_ring 35 = .ok (.invokevirtual 116, 3) := by decide +kernel
theorem dX8_ring_38 : decode cX8_ring 38 = .ok (.aload_n 0, 1) := by decide +kernel
theorem dX8_ring_39 : decode cX8_ring 39 = .ok (.iload_n 1, 1) := by decide +kernel
theorem dX8_ring_40 : decode cX8_ring 40 = .ok (.invokevirtual 68, 3) := by decide +kernel
theorem dX8_ring_43 : decode cX8_ring 43 = .ok (.ifCond .eq 14, 3) := by decide +kernel
theorem dX8_ring_46 : decode cX8_ring 46 = .ok (.aload_n 0, 1) := by decide +kernel
theorem dX8_ring_47 : decode cX8_ring 47 = .ok (.getfield 50, 3) := by decide +kernel
theorem dX8_ring_50 : decode cX8_ring 50 = .ok (.iload_n 1, 1) := by decide +kernel
theorem dX8_ring_51 : decode cX8_ring 51 = .ok (.baload, 1) := by decide +kernel
theorem dX8_ring_52 : decode cX8_ring 52 = .ok (.ifCond .eq 5, 3) := by decide +kernel
theorem dX8_ring_55 : decode cX8_ring 55 = .ok (.iload_n 1, 1) := by decide +kernel
theorem dX8_ring_56 : decode cX8_ring 56 = .ok (.ireturn, 1) := by decide +kernel
theorem dX8_ring_57 : decode cX8_ring 57 = .ok (.iinc 1 1, 3) := by decide +kernel
theorem dX8_ring_60 : decode cX8_ring 60 = .ok (.goto (-58), 3) := by decide +kernel
theorem dX8_ring_63 : decode cX8_ring 63 = .ok (.iconst 0, 1) := by decide +kernel
theorem dX8_ring_64 : decode cX8_ring 64 = .ok (.ireturn, 1) := by decide +kernel
set_option maxRecDepth 20000 in
theorem ggX8_reach_X8_isActive : GoodIn wsX8_reach wsX8_isActive := goodIn_r _ [9, 1, 10, 21, 22, 23, 24, 25, 26, 27, 28, 29, 30, 31, 32, 33, 34, 35, 36] (by decide +kernel) (by decide +kernel)
set_option maxRecDepth 20000 in
theorem gX8_reach_X8_isActive : GoodIn wsX8_reach (wsV RX8 68 RX8 yX8_isActive wsX8_isActive) := goodIn_app (goodIn_of _ (by decide +kernel)) ggX8_reach_X8_isActive
set_option maxRecDepth 20000 in
theorem ggX8_reach_X8_isInWay : GoodIn wsX8_reach wsX8_isInWay := goodIn_r _ [14, 15, 5, 6, 7, 8, 9, 1, 10, 16, 17, 18, 19, 20, 21, 22, 23, 24, 25, 26, 27, 28, 29, 30, 31, 32, 33, 34, 35, 36] (by decide +kernel) (by decide +kernel)
set_option maxRecDepth 20000 in
theorem gX8_reach_X8_isInWay : GoodIn wsX8_reach (wsV RX8 76 RX8 yX8_isInWay wsX8_isInWay) := goodIn_app (goodIn_of _ (by decide +kernel)) ggX8_reach_X8_isInWay
theorem dX8_reach_0 : decode cX8_reach 0 = .ok (.iconst 1, 1) := by decide +kernel
theorem dX8_reach_1 : decode cX8_reach 1 = .ok (.istore_n 2, 1) := by decide +kernel
theorem dX8_reach_2 : decode cX8_reach 2 = .ok (.iconst 0, 1) := by decide +kernel
theorem dX8_reach_3 : decode cX8_reach 3 = .ok (.istore_n 3, 1) := by decide +kernel
theorem dX8_reach_4 : decode cX8_reach 4 = .ok (.iload_n 2, 1) := by decide +kernel
theorem dX8_reach_5 : decode cX8_reach 5 = .ok (.ifCond .eq 143, 3) := by decide +kernel
theorem dX8_reach_8 : decode cX8_reach 8 = .ok (.iconst 0, 1) := by decide +kernel
theorem dX8_reach_9 : decode cX8_reach 9 = .ok (.istore_n 2, 1) := by decide +kernel
theorem dX8_reach_10 : decode cX8_reach 10 = .ok (.iconst 1, 1) := by decide +kernel
theorem dX8_reach_11 : decode cX8_reach 11 = .ok (.istore 4, 2) := by decide +kernel
theorem dX8_reach_13 : decode cX8_reach 13 = .ok (.iload 4, 2) := by decide +kernel
theorem dX8_reach_15 : decode cX8_reach 15 = .ok (.aload_n 0, 1) := by decide +kernel
theorem dX8_reach_16 : decode cX8_reach 16 = .ok (.getfield 53, 3) := by decide +kernel
theorem dX8_reach_19 : decode cX8_reach 19 = .ok (.if_icmp .gt 124, 3) := by decide +kernel
theorem dX8_reach_22 : decode cX8_reach 22 = .ok (.aload_n 0, 1) := by decide +kernel
theorem dX8_reach_23 : decode cX8_reach 23 = .ok (.getfield 50, 3) := by decide +kernel
theorem dX8_reach_26 : decode cX8_reach 26 = .ok (.iload 4, 2) := by decide +kernel
theorem dX8_reach_28 : decode cX8_reach 28 = .ok (.baload, 1) := by decide +kernel
theorem dX8_reach_29 : decode cX8_reach 29 = .ok (.ifCond .ne 13, 3) := by decide +kernel
theorem dX8_reach_32 : decode cX8_reach 32 = .ok (.iload 4, 2) := by decide +kernel
theorem dX8_reach_34 : decode cX8_reach 34 = .ok (.iload_n 1, 1) := by decide +kernel
theorem dX8_reach_35 : decode cX8_reach 35 = .ok (.if_icmp .ne 11, 3) := by decide +kernel
theorem dX8_reach_38 : decode cX8_reach 38 = .ok (.iload_n 3, 1) := by decide +kernel
theorem dX8_reach_39 : decode cX8_reach 39 = .ok (.ifCond .ne 7, 3) := by decide +kernel
theorem dX8_reach_42 : decode cX8_reach 42 = .ok (.iconst 1, 1) := by decide +kernel
theorem dX8_reach_43 : decode cX8_reach 43 = .ok (.goto 4, 3) := by decide +kernel
theorem dX8_reach_46 : decode cX8_reach 46 = .ok (.iconst 0, 1) := by decide +kernel
theorem dX8_reach_47 : decode cX8_reach 47 = .ok (.istore 5, 2) := by decide +kernel
theorem dX8_reach_49 : decode cX8_reach 49 = .ok (.iconst 1, 1) := by decide +kernel
theorem dX8_reach_50 : decode cX8_reach 50 = .ok (.istore 6, 2) := by decide +kernel
theorem dX8_reach_52 : decode cX8_reach 52 = .ok (.iload 6, 2) := by decide +kernel
theorem dX8_reach_54 : decode cX8_reach 54 = .ok (.aload_n 0, 1) := by decide +kernel
theorem dX8_reach_55 : decode cX8_reach 55 = .ok (.getfield 53, 3) := by decide +kernel
theorem dX8_reach_58 : decode cX8_reach 58 = .ok (.if_icmp .gt 79, 3) := by decide +kernel
theorem dX8_reach_61 : decode cX8_reach 61 = .ok (.iload 5, 2) := by decide +kernel
theorem dX8_reach_63 : decode cX8_reach 63 = .ok (.ifCond .eq 74, 3) := by decide +kernel
theorem dX8_reach_66 : decode cX8_reach 66 = .ok (.aload_n 0, 1) := by decide +kernel
theorem dX8_reach_67 : decode cX8_reach 67 = .ok (.iload 4, 2) := by decide +kernel
theorem dX8_reach_69 : decode cX8_reach 69 = .ok (.invokevirtual 68, 3) := by decide +kernel
theorem dX8_reach_72 : decode cX8_reach 72 = .ok (.ifCond .eq 65, 3) := by decide +kernel
theorem dX8_reach_75 : decode cX8_reach 75 = .ok (.aload_n 0, 1) := by decide +kernel
theorem dX8_reach_76 : decode cX8_reach 76 = .ok (.getfield 30, 3) := by decide +kernel
theorem dX8_reach_79 : decode cX8_reach 79 = .ok (.iload 4, 2) := by decide +kernel
theorem dX8_reach_81 : decode cX8_reach 81 = .ok (.iaload, 1) := by decide +kernel
theorem dX8_reach_82 : decode cX8_reach 82 = .ok (.iconst (-1), 1) := by decide +kernel
theorem dX8_reach_83 : decode cX8_reach 83 = .ok (.if_icmp .eq 54, 3) := by decide +kernel
theorem dX8_reach_86 : decode cX8_reach 86 = .ok (.aload_n 0, 1) := by decide +kernel
theorem dX8_reach_87 : decode cX8_reach 87 = .ok (.getfield 50, 3) := by decide +kernel
theorem dX8_reach_90 : decode cX8_reach 90 = .ok (.iload 6, 2) := by decide +kernel
theorem dX8_reach_92 : decode cX8_reach 92 = .ok (.baload, 1) := by decide +kernel
theorem dX8_reach_93 : decode cX8_reach 93 = .ok (.ifCond .ne 38, 3) := by decide +kernel
theorem dX8_reach_96 : decode cX8_reach 96 = .ok (.aload_n 0, 1) := by decide +kernel
theorem dX8_reach_97 : decode cX8_reach 97 = .ok (.iload 6, 2) := by decide +kernel
theorem dX8_reach_99 : decode cX8_reach 99 = .ok (.iload 4, 2) := by decide +kernel
theorem dX8_reach_101 : decode cX8_reach 101 = .ok (.aload_n 0, 1) := by decide +kernel
theorem dX8_reach_102 : decode cX8_reach 102 = .ok (.getfield 30, 3) := by decide +kernel
theorem dX8_reach_105 : decode cX8_reach 105 = .ok (.iload 4, 2) := by decide +kernel
theorem dX8_reach_107 : decode cX8_reach 107 = .ok (.iaload, 1) := by decide +kernel
theorem dX8_reach_108 : decode cX8_reach 108 = .ok (.aload_n 0, 1) := by decide +kernel
theorem dX8_reach_109 : decode cX8_reach 109 = .ok (.getfield 33, 3) := by decide +kernel
theorem dX8_reach_112 : decode cX8_reach 112 = .ok (.iload 4, 2) := by decide +kernel
theorem dX8_reach_114 : decode cX8_reach 114 = .ok (.baload, 1) := by decide +kernel
theorem dX8_reach_115 : decode cX8_reach 115 = .ok (.invokevirtual 76, 3) := by decide +kernel
theorem dX8_reach_118 : decode cX8_reach 118 = .ok (.ifCond .eq 13, 3) := by decide +kernel
theorem dX8_reach_121 : decode cX8_reach 121 = .ok (.aload_n 0, 1) := by decide +kernel
theorem dX8_reach_122 : decode cX8_reach 122 = .ok (.getfield 50, 3) := by decide +kernel
theorem dX8_reach_125 : decode cX8_reach 125 = .ok (.iload 6, 2) := by decide +kernel
theorem dX8_reach_127 : decode cX8_reach 127 = .ok (.iconst 1, 1) := by decide +kernel
theorem dX8_reach_128 : decode cX8_reach 128 = .ok (.bastore, 1) := by decide +kernel
theorem dX8_reach_129 : decode cX8_reach 129 = .ok (.iconst 1, 1) := by decide +kernel
theorem dX8_reach_130 : decode cX8_reach 130 = .ok (.istore_n 2, 1) := by decide +kernel
theorem dX8_reach_131 : decode cX8_reach 131 = .ok (.iinc 6 1, 3) := by decide +kernel
theorem dX8_reach_134 : decode cX8_reach 134 = .ok (.goto (-82), 3) := by decide +kernel
theorem dX8_reach_137 : decode cX8_reach 137 = .ok (.iinc 4 1, 3) := by decide +kernel
theorem dX8_reach_140 : decode cX8_reach 140 = .ok (.goto (-127), 3) := by decide +kernel
theorem dX8_reach_143 : decode cX8_reach 143 = .ok (.iconst 1, 1) := by decide +kernel
theorem dX8_reach_144 : decode cX8_reach 144 = .ok (.istore_n 3, 1) := by decide +kernel
theorem dX8_reach_145 : decode cX8_reach 145 = .ok (.goto (-141), 3) := by decide +kernel
theorem dX8_reach_148 : decode cX8_reach 148 = .ok (.return_, 1) := by decide +kernel
set_option maxRecDepth 20000 in
theorem ggX8_isThere_X8_isActive : GoodIn wsX8_isThere wsX8_isActive := goodIn_r _ [5, 6, 7, 8, 9, 10, 11, 12, 13, 14, 15, 16, 17, 18, 19, 20, 21, 22, 23] (by decide +kernel) (by decide +kernel)
set_option maxRecDepth 20000 in
theorem gX8_isThere_X8_isActive : GoodIn wsX8_isThere (wsV RX8 68 RX8 yX8_isActive wsX8_isActive) := goodIn_app (goodIn_of _ (by decide +kernel)) ggX8_isThere_X8_isActive
theorem dX8_isThere_0 : decode cX8_isThere 0 = .ok (.iload_n 1, 1) := by decide +kernel
theorem dX8_isThere_1 : decode cX8_isThere 1 = .ok (.ifCond .eq 11, 3) := by decide +kernel
theorem dX8_isThere_4 : decode cX8_isThere 4 = .ok (.aload_n 0, 1) := by decide +kernel
theorem dX8_isThere_5 : decode cX8_isThere 5 = .ok (.iload_n 1, 1) := by decide +kernel
theorem dX8_isThere_6 : decode cX8_isThere 6 = .ok (.invokevirtual 68, 3) := by decide +kernel
theorem dX8_isThere_9 : decode cX8_isThere 9 = .ok (.ifCond .eq 7, 3) := by decide +kernel
theorem dX8_isThere_12 : decode cX8_isThere 12 = .ok (.iconst 1, 1) := by decide +kernel
theorem dX8_isThere_13 : decode cX8_isThere 13 = .ok (.goto 4, 3) := by decide +kernel
theorem dX8_isThere_16 : decode cX8_isThere 16 = .ok (.iconst 0, 1) := by decide +kernel
theorem dX8_isThere_17 : decode cX8_isThere 17 = .ok (.ireturn, 1) := by decide +kernel
set_option maxRecDepth 20000 in
theorem ggX8_size_X8_isThere : GoodIn wsX8_size wsX8_isThere := goodIn_r _ [6, 7, 8, 9, 5, 10, 11, 12, 23, 24, 25, 26, 27, 28, 29, 30, 31, 32, 33, 34, 35, 36, 37, 38] (by decide +kernel) (by decide +kernel)
set_option maxRecDepth 20000 in
theorem gX8_size_X8_isThere : GoodIn wsX8_size (wsV RX8 120 RX8 yX8_isThere wsX8_isThere) := goodIn_app (goodIn_of _ (by decide +kernel)) ggX8_size_X8_isThere
set_option maxRecDepth 20000 in
theorem ggX8_size_X8_sees : GoodIn wsX8_size wsX8_sees := goodIn_r _ [16, 17, 18, 19, 5, 20, 21, 22, 23, 24, 25, 26, 27, 28, 29, 30, 31, 32, 33, 34, 35, 36, 37, 38] (by decide +kernel) (by decide +kernel)
set_option maxRecDepth 20000 in
theorem gX8_size_X8_sees : GoodIn wsX8_size (wsV RX8 97 RX8 yX8_sees wsX8_sees) := goodIn_app (goodIn_of _ (by decide +kernel)) ggX8_size_X8_sees
theorem dX8_size_0 : decode cX8_size 0 = .ok (.aload_n 0, 1) := by decide +kernel
theorem dX8_size_1 : decode cX8_size 1 = .ok (.iload_n 1, 1) := by decide +kernel
theorem dX8_size_2 : decode cX8_size 2 = .ok (.invokevirtual 120, 3) := by decide +kernel
theorem dX8_size_5 : decode cX8_size 5 = .ok (.ifCond .ne 5, 3) := by decide +kernel
theorem dX8_size_8 : decode cX8_size 8 = .ok (.iconst (-1), 1) := by decide +kernel
theorem dX8_size_9 : decode cX8_size 9 = .ok (.ireturn, 1) := by decide +kernel
theorem dX8_size_10 : decode cX8_size 10 = .ok (.iconst 0, 1) := by decide +kernel
theorem dX8_size_11 : decode cX8_size 11 = .ok (.istore_n 2, 1) := by decide +kernel
theorem dX8_size_12 : decode cX8_size 12 = .ok (.iconst 0, 1) := by decide +kernel
theorem dX8_size_13 : decode cX8_size 13 = .ok (.istore_n 3, 1) := by decide +kernel
theorem dX8_size_14 : decode cX8_size 14 = .ok (.iload_n 3, 1) := by decide +kernel
theorem dX8_size_15 : decode cX8_size 15 = .ok (.aload_n 0, 1) := by decide +kernel
theorem dX8_size_16 : decode cX8_size 16 = .ok (.getfield 57, 3) := by decide +kernel
theorem dX8_size_19 : decode cX8_size 19 = .ok (.if_icmp .ge 26, 3) := by decide +kernel
theorem dX8_size_22 : decode cX8_size 22 = .ok (.iload_n 2, 1) := by decide +kernel
theorem dX8_size_23 : decode cX8_size 23 = .ok (.aload_n 0, 1) := by decide +kernel
theorem dX8_size_24 : decode cX8_size 24 = .ok (.iload_n 1, 1) := by decide +kernel
theorem dX8_size_25 : decode cX8_size 25 = .ok (.iload_n 3, 1) := by decide +kernel
theorem dX8_size_26 : decode cX8_size 26 = .ok (.invokevirtual 97, 3) := by decide +kernel
theorem dX8_size_29 : decode cX8_size 29 = .ok (.ifCond .eq 7, 3) := by decide +kernel
theorem dX8_size_32 : decode cX8_size 32 = .ok (.iconst 1, 1) := by decide +kernel
theorem dX8_size_33 : decode cX8_size 33 = .ok (.goto 4, 3) := by decide +kernel
theorem dX8_size_36 : decode cX8_size 36 = .ok (.iconst 0, 1) := by decide +kernel
theorem dX8_size_37 : decode cX8_size 37 = .ok (.iadd, 1) := by decide +kernel
theorem dX8_size_38 : decode cX8_size 38 = .ok (.istore_n 2, 1) := by decide +kernel
theorem dX8_size_39 : decode cX8_size 39 = .ok (.iinc 3 1, 3) := by decide +kernel
theorem dX8_size_42 : decode cX8_size 42 = .ok (.goto (-28), 3) := by decide +kernel
theorem dX8_size_45 : decode cX8_size 45 = .ok (.iload_n 2, 1) := by decide +kernel
theorem dX8_size_46 : decode cX8_size 46 = .ok (.ireturn, 1) := by decide +kernel
set_option maxRecDepth 20000 in
theorem ggX8_next_X8_isThere : GoodIn wsX8_next wsX8_isThere := goodIn_r _ [9, 10, 11, 12, 8, 13, 14, 15, 26, 27, 28, 29, 30, 31, 32, 33, 34, 35, 36, 37, 38, 39, 40, 41] (by decide +kernel) (by decide +kernel)
set_option maxRecDepth 20000 in
theorem gX8_next_X8_isThere : GoodIn wsX8_next (wsV RX8 120 RX8 yX8_isThere wsX8_isThere) := goodIn_app (goodIn_of _ (by decide +kernel)) ggX8_next_X8_isThere
set_option maxRecDepth 20000 in
theorem ggX8_next_X8_sees : GoodIn wsX8_next wsX8_sees := goodIn_r _ [19, 20, 21, 22, 8, 23, 24, 25, 26, 27, 28, 29, 30, 31, 32, 33, 34, 35, 36, 37, 38, 39, 40, 41] (by decide +kernel) (by decide +kernel)
set_option maxRecDepth 20000 in
theorem gX8_next_X8_sees : GoodIn wsX8_next (wsV RX8 97 RX8 yX8_sees wsX8_sees) := goodIn_app (goodIn_of _ (by decide +kernel)) ggX8_next_X8_sees
theorem dX8_next_0 : decode cX8_next 0 = .ok (.aload_n 0, 1) := by decide +kernel
theorem dX8_next_1 : decode cX8_next 1 = .ok (.iload_n 1, 1) := by decide +kernel
theorem dX8_next_2 : decode cX8_next 2 = .ok (.invokevirtual 120, 3) := by decide +kernel
theorem dX8_next_5 : decode cX8_next 5 = .ok (.ifCond .ne 7, 3) := by decide +kernel
theorem dX8_next_8 : decode cX8_next 8 = .ok (.ldc2_w 86, 3) := by decide +kernel
theorem dX8_next_11 : decode cX8_next 11 = .ok (.lreturn, 1) := by decide +kernel
theorem dX8_next_12 : decode cX8_next 12 = .ok (.ldc2_w 84, 3) := by decide +kernel
theorem dX8_next_15 : decode cX8_next 15 = .ok (.lstore_n 3, 1) := by decide +kernel
theorem dX8_next_16 : decode cX8_next 16 = .ok (.iconst 0, 1) := by decide +kernel
theorem dX8_next_17 : decode cX8_next 17 = .ok (.istore 5, 2) := by decide +kernel
theorem dX8_next_19 : decode cX8_next 19 = .ok (.iload 5, 2) := by decide +kernel
theorem dX8_next_21 : decode cX8_next 21 = .ok (.aload_n 0, 1) := by decide +kernel
theorem dX8_next_22 : decode cX8_next 22 = .ok (.getfield 57, 3) := by decide +kernel
theorem dX8_next_25 : decode cX8_next 25 = .ok (.if_icmp .ge 56, 3) := by decide +kernel
theorem dX8_next_28 : decode cX8_next 28 = .ok (.aload_n 0, 1) := by decide +kernel
theorem dX8_next_29 : decode cX8_next 29 = .ok (.getfield 7, 3) := by decide +kernel
theorem dX8_next_32 : decode cX8_next 32 = .ok (.iload 5, 2) := by decide +kernel
theorem dX8_next_34 : decode cX8_next 34 = .ok (.iaload, 1) := by decide +kernel
theorem dX8_next_35 : decode cX8_next 35 = .ok (.iload_n 2, 1) := by decide +kernel
theorem dX8_next_36 : decode cX8_next 36 = .ok (.if_icmp .le 37, 3) := by decide +kernel
theorem dX8_next_39 : decode cX8_next 39 = .ok (.aload_n 0, 1) := by decide +kernel
theorem dX8_next_40 : decode cX8_next 40 = .ok (.getfield 7, 3) := by decide +kernel
theorem dX8_next_43 : decode cX8_next 43 = .ok (.iload 5, 2) := by decide +kernel
theorem dX8_next_45 : decode cX8_next 45 = .ok (.iaload, 1) := by decide +kernel
theorem dX8_next_46 : decode cX8_next 46 = .ok (.i2l, 1) := by decide +kernel
theorem dX8_next_47 : decode cX8_next 47 = .ok (.lload_n 3, 1) := by decide +kernel
theorem dX8_next_48 : decode cX8_next 48 = .ok (.lcmp, 1) := by decide +kernel
theorem dX8_next_49 : decode cX8_next 49 = .ok (.ifCond .ge 24, 3) := by decide +kernel
theorem dX8_next_52 : decode cX8_next 52 = .ok (.aload_n 0, 1) := by decide +kernel
theorem dX8_next_53 : decode cX8_next 53 = .ok (.iload_n 1, 1) := by decide +kernel
theorem dX8_next_54 : decode cX8_next 54 = .ok (.iload 5, 2) := by decide +kernel
theorem dX8_next_56 : decode cX8_next 56 = .ok (.invokevirtual 97, 3) := by decide +kernel
theorem dX8_next_59 : decode cX8_next 59 = .ok (.ifCond .eq 14, 3) := by decide +kernel
theorem dX8_next_62 : decode cX8_next 62 = .ok (.aload_n 0, 1) := by decide +kernel
theorem dX8_next_63 : decode cX8_next 63 = .ok (.getfield 7, 3) := by decide +kernel
theorem dX8_next_66 : decode cX8_next 66 = .ok (.iload 5, 2) := by decide +kernel
theorem dX8_next_68 : decode cX8_next 68 = .ok (.iaload, 1) := by decide +kernel
theorem dX8_next_69 : decode cX8_next 69 = .ok (.i2l, 1) := by decide +kernel
theorem dX8_next_70 : decode cX8_next 70 = .ok (.goto 4, 3) := by decide +kernel
theorem dX8_next_73 : decode cX8_next 73 = .ok (.lload_n 3, 1) := by decide +kernel
theorem dX8_next_74 : decode cX8_next 74 = .ok (.lstore_n 3, 1) := by decide +kernel
theorem dX8_next_75 : decode cX8_next 75 = .ok (.iinc 5 1, 3) := by decide +kernel
theorem dX8_next_78 : decode cX8_next 78 = .ok (.goto (-59), 3) := by decide +kernel
theorem dX8_next_81 : decode cX8_next 81 = .ok (.lload_n 3, 1) := by decide +kernel
theorem dX8_next_82 : decode cX8_next 82 = .ok (.lreturn, 1) := by decide +kernel
set_option maxRecDepth 20000 in
theorem ggX8_sum_X8_isThere : GoodIn wsX8_sum wsX8_isThere := goodIn_r _ [9, 10, 11, 12, 8, 13, 14, 15, 26, 27, 28, 29, 30, 31, 32, 33, 34, 35, 36, 37, 38, 39, 40, 41] (by decide +kernel) (by decide +kernel)
set_option maxRecDepth 20000 in
theorem gX8_sum_X8_isThere : GoodIn wsX8_sum (wsV RX8 120 RX8 yX8_isThere wsX8_isThere) := goodIn_app (goodIn_of _ (by decide +kernel)) ggX8_sum_X8_isThere
set_option maxRecDepth 20000 in
theorem ggX8_sum_X8_sees : GoodIn wsX8_sum wsX8_sees := goodIn_r _ [19, 20, 21, 22, 8, 23, 24, 25, 26, 27, 28, 29, 30, 31, 32, 33, 34, 35, 36, 37, 38, 39, 40, 41] (by decide +kernel) (by decide +kernel)
set_option maxRecDepth 20000 in
theorem gX8_sum_X8_sees : GoodIn wsX8_sum (wsV RX8 97 RX8 yX8_sees wsX8_sees) := goodIn_app (goodIn_of _ (by decide +kernel)) ggX8_sum_X8_sees
set_option maxRecDepth 20000 in
theorem ggX8_sum_X8_source : GoodIn wsX8_sum wsX8_source := goodIn_r _ [23, 24, 25, 26, 27, 28, 29, 30, 31, 32, 33, 34, 35, 36, 37, 38, 39, 40, 41] (by decide +kernel) (by decide +kernel)
set_option maxRecDepth 20000 in
theorem gX8_sum_X8_source : GoodIn wsX8_sum (wsV RX8 64 RX8 yX8_source wsX8_source) := goodIn_app (goodIn_of _ (by decide +kernel)) ggX8_sum_X8_source
theorem dX8_sum_0 : decode cX8_sum 0 = .ok (.aload_n 0, 1) := by decide +kernel
theorem dX8_sum_1 : decode cX8_sum 1 = .ok (.iload_n 1, 1) := by decide +kernel
theorem dX8_sum_2 : decode cX8_sum 2 = .ok (.invokevirtual 120, 3) := by decide +kernel
theorem dX8_sum_5 : decode cX8_sum 5 = .ok (.ifCond .ne 7, 3) := by decide +kernel
theorem dX8_sum_8 : decode cX8_sum 8 = .ok (.ldc2_w 86, 3) := by decide +kernel
theorem dX8_sum_11 : decode cX8_sum 11 = .ok (.lreturn, 1) := by decide +kernel
theorem dX8_sum_12 : decode cX8_sum 12 = .ok (.lconst 0, 1) := by decide +kernel
theorem dX8_sum_13 : decode cX8_sum 13 = .ok (.lstore 4, 2) := by decide +kernel
theorem dX8_sum_15 : decode cX8_sum 15 = .ok (.iconst 0, 1) := by decide +kernel
theorem dX8_sum_16 : decode cX8_sum 16 = .ok (.istore 6, 2) := by decide +kernel
theorem dX8_sum_18 : decode cX8_sum 18 = .ok (.iload 6, 2) := by decide +kernel
theorem dX8_sum_20 : decode cX8_sum 20 = .ok (.aload_n 0, 1) := by decide +kernel
theorem dX8_sum_21 : decode cX8_sum 21 = .ok (.getfield 57, 3) := by decide +kernel
theorem dX8_sum_24 : decode cX8_sum 24 = .ok (.if_icmp .ge 70, 3) := by decide +kernel
theorem dX8_sum_27 : decode cX8_sum 27 = .ok (.lload 4, 2) := by decide +kernel
theorem dX8_sum_29 : decode cX8_sum 29 = .ok (.aload_n 0, 1) := by decide +kernel
theorem dX8_sum_30 : decode cX8_sum 30 = .ok (.getfield 7, 3) := by decide +kernel
theorem dX8_sum_33 : decode cX8_sum 33 = .ok (.iload 6, 2) := by decide +kernel
theorem dX8_sum_35 : decode cX8_sum 35 = .ok (.iaload, 1) := by decide +kernel
theorem dX8_sum_36 : decode cX8_sum 36 = .ok (.iload_n 2, 1) := by decide +kernel
theorem dX8_sum_37 : decode cX8_sum 37 = .ok (.if_icmp .lt 47, 3) := by decide +kernel
theorem dX8_sum_40 : decode cX8_sum 40 = .ok (.aload_n 0, 1) := by decide +kernel
theorem dX8_sum_41 : decode cX8_sum 41 = .ok (.getfield 7, 3) := by decide +kernel
theorem dX8_sum_44 : decode cX8_sum 44 = .ok (.iload 6, 2) := by decide +kernel
theorem dX8_sum_46 : decode cX8_sum 46 = .ok (.iaload, 1) := by decide +kernel
theorem dX8_sum_47 : decode cX8_sum 47 = .ok (.iload_n 3, 1) := by decide +kernel
theorem dX8_sum_48 : decode cX8_sum 48 = .ok (.if_icmp .gt 36, 3) := by decide +kernel
theorem dX8_sum_51 : decode cX8_sum 51 = .ok (.aload_n 0, 1) := by decide +kernel
theorem dX8_sum_52 : decode cX8_sum 52 = .ok (.iload_n 1, 1) := by decide +kernel
theorem dX8_sum_53 : decode cX8_sum 53 = .ok (.iload 6, 2) := by decide +kernel
theorem dX8_sum_55 : decode cX8_sum 55 = .ok (.invokevirtual 97, 3) := by decide +kernel
theorem dX8_sum_58 : decode cX8_sum 58 = .ok (.ifCond .eq 26, 3) := by decide +kernel
theorem dX8_sum_61 : decode cX8_sum 61 = .ok (.aload_n 0, 1) := by decide +kernel
theorem dX8_sum_62 : decode cX8_sum 62 = .ok (.getfield 18, 3) := by decide +kernel
theorem dX8_sum_65 : decode cX8_sum 65 = .ok (.sipush 520, 3) := by decide +kernel
theorem dX8_sum_68 : decode cX8_sum 68 = .ok (.aload_n 0, 1) := by decide +kernel
theorem dX8_sum_69 : decode cX8_sum 69 = .ok (.iload_n 1, 1) := by decide +kernel
theorem dX8_sum_70 : decode cX8_sum 70 = .ok (.iload 6, 2) := by decide +kernel
theorem dX8_sum_72 : decode cX8_sum 72 = .ok (.invokevirtual 64, 3) := by decide +kernel
theorem dX8_sum_75 : decode cX8_sum 75 = .ok (.imul, 1) := by decide +kernel
theorem dX8_sum_76 : decode cX8_sum 76 = .ok (.iload 6, 2) := by decide +kernel
theorem dX8_sum_78 : decode cX8_sum 78 = .ok (.iadd, 1) := by decide +kernel
theorem dX8_sum_79 : decode cX8_sum 79 = .ok (.iaload, 1) := by decide +kernel
theorem dX8_sum_80 : decode cX8_sum 80 = .ok (.i2l, 1) := by decide +kernel
theorem dX8_sum_81 : decode cX8_sum 81 = .ok (.goto 4, 3) := by decide +kernel
theorem dX8_sum_84 : decode cX8_sum 84 = .ok (.lconst 0, 1) := by decide +kernel
theorem dX8_sum_85 : decode cX8_sum 85 = .ok (.ladd, 1) := by decide +kernel
theorem dX8_sum_86 : decode cX8_sum 86 = .ok (.lstore 4, 2) := by decide +kernel
theorem dX8_sum_88 : decode cX8_sum 88 = .ok (.iinc 6 1, 3) := by decide +kernel
theorem dX8_sum_91 : decode cX8_sum 91 = .ok (.goto (-73), 3) := by decide +kernel
theorem dX8_sum_94 : decode cX8_sum 94 = .ok (.lload 4, 2) := by decide +kernel
theorem dX8_sum_96 : decode cX8_sum 96 = .ok (.lreturn, 1) := by decide +kernel
theorem dJ9_max_7cf53_0 : decode cJ9_max_7cf53 0 = .ok (.iload_n 0, 1) := by decide +kernel
theorem dJ9_max_7cf53_1 : decode cJ9_max_7cf53 1 = .ok (.iload_n 1, 1) := by decide +kernel
theorem dJ9_max_7cf53_2 : decode cJ9_max_7cf53 2 = .ok (.if_icmp .lt 7, 3) := by decide +kernel
theorem dJ9_max_7cf53_5 : decode cJ9_max_7cf53 5 = .ok (.iload_n 0, 1) := by decide +kernel
theorem dJ9_max_7cf53_6 : decode cJ9_max_7cf53 6 = .ok (.goto 4, 3) := by decide +kernel
theorem dJ9_max_7cf53_9 : decode cJ9_max_7cf53 9 = .ok (.iload_n 1, 1) := by decide +kernel
theorem dJ9_max_7cf53_10 : decode cJ9_max_7cf53 10 = .ok (.ireturn, 1) := by decide +kernel
theorem dJ9_min_f86c9_0 : decode cJ9_min_f86c9 0 = .ok (.lload_n 0, 1) := by decide +kernel
theorem dJ9_min_f86c9_1 : decode cJ9_min_f86c9 1 = .ok (.lload_n 2, 1) := by decide +kernel
theorem dJ9_min_f86c9_2 : decode cJ9_min_f86c9 2 = .ok (.lcmp, 1) := by decide +kernel
theorem dJ9_min_f86c9_3 : decode cJ9_min_f86c9 3 = .ok (.ifCond .gt 7, 3) := by decide +kernel
theorem dJ9_min_f86c9_6 : decode cJ9_min_f86c9 6 = .ok (.lload_n 0, 1) := by decide +kernel
theorem dJ9_min_f86c9_7 : decode cJ9_min_f86c9 7 = .ok (.goto 4, 3) := by decide +kernel
theorem dJ9_min_f86c9_10 : decode cJ9_min_f86c9 10 = .ok (.lload_n 2, 1) := by decide +kernel
theorem dJ9_min_f86c9_11 : decode cJ9_min_f86c9 11 = .ok (.lreturn, 1) := by decide +kernel
theorem dJ7_fill_d0a16_0 : decode cJ7_fill_d0a16 0 = .ok (.iconst 0, 1) := by decide +kernel
theorem dJ7_fill_d0a16_1 : decode cJ7_fill_d0a16 1 = .ok (.istore_n 3, 1) := by decide +kernel
theorem dJ7_fill_d0a16_2 : decode cJ7_fill_d0a16 2 = .ok (.aload_n 0, 1) := by decide +kernel
theorem dJ7_fill_d0a16_3 : decode cJ7_fill_d0a16 3 = .ok (.arraylength, 1) := by decide +kernel
theorem dJ7_fill_d0a16_4 : decode cJ7_fill_d0a16 4 = .ok (.istore 4, 2) := by decide +kernel
theorem dJ7_fill_d0a16_6 : decode cJ7_fill_d0a16 6 = .ok (.iload_n 3, 1) := by decide +kernel
theorem dJ7_fill_d0a16_7 : decode cJ7_fill_d0a16 7 = .ok (.iload 4, 2) := by decide +kernel
theorem dJ7_fill_d0a16_9 : decode cJ7_fill_d0a16 9 = .ok (.if_icmp .ge 13, 3) := by decide +kernel
theorem dJ7_fill_d0a16_12 : decode cJ7_fill_d0a16 12 = .ok (.aload_n 0, 1) := by decide +kernel
theorem dJ7_fill_d0a16_13 : decode cJ7_fill_d0a16 13 = .ok (.iload_n 3, 1) := by decide +kernel
theorem dJ7_fill_d0a16_14 : decode cJ7_fill_d0a16 14 = .ok (.lload_n 1, 1) := by decide +kernel
theorem dJ7_fill_d0a16_15 : decode cJ7_fill_d0a16 15 = .ok (.lastore, 1) := by decide +kernel
theorem dJ7_fill_d0a16_16 : decode cJ7_fill_d0a16 16 = .ok (.iinc 3 1, 3) := by decide +kernel
theorem dJ7_fill_d0a16_19 : decode cJ7_fill_d0a16 19 = .ok (.goto (-13), 3) := by decide +kernel
theorem dJ7_fill_d0a16_22 : decode cJ7_fill_d0a16 22 = .ok (.return_, 1) := by decide +kernel
theorem dJ7_fill_53178_0 : decode cJ7_fill_53178 0 = .ok (.iconst 0, 1) := by decide +kernel
theorem dJ7_fill_53178_1 : decode cJ7_fill_53178 1 = .ok (.istore_n 2, 1) := by decide +kernel
theorem dJ7_fill_53178_2 : decode cJ7_fill_53178 2 = .ok (.aload_n 0, 1) := by decide +kernel
theorem dJ7_fill_53178_3 : decode cJ7_fill_53178 3 = .ok (.arraylength, 1) := by decide +kernel
theorem dJ7_fill_53178_4 : decode cJ7_fill_53178 4 = .ok (.istore_n 3, 1) := by decide +kernel
theorem dJ7_fill_53178_5 : decode cJ7_fill_53178 5 = .ok (.iload_n 2, 1) := by decide +kernel
theorem dJ7_fill_53178_6 : decode cJ7_fill_53178 6 = .ok (.iload_n 3, 1) := by decide +kernel
theorem dJ7_fill_53178_7 : decode cJ7_fill_53178 7 = .ok (.if_icmp .ge 13, 3) := by decide +kernel
theorem dJ7_fill_53178_10 : decode cJ7_fill_53178 10 = .ok (.aload_n 0, 1) := by decide +kernel
theorem dJ7_fill_53178_11 : decode cJ7_fill_53178 11 = .ok (.iload_n 2, 1) := by decide +kernel
theorem dJ7_fill_53178_12 : decode cJ7_fill_53178 12 = .ok (.iload_n 1, 1) := by decide +kernel
theorem dJ7_fill_53178_13 : decode cJ7_fill_53178 13 = .ok (.iastore, 1) := by decide +kernel
theorem dJ7_fill_53178_14 : decode cJ7_fill_53178 14 = .ok (.iinc 2 1, 3) := by decide +kernel
theorem dJ7_fill_53178_17 : decode cJ7_fill_53178 17 = .ok (.goto (-12), 3) := by decide +kernel
theorem dJ7_fill_53178_20 : decode cJ7_fill_53178 20 = .ok (.return_, 1) := by decide +kernel
set_option maxRecDepth 20000 in
theorem ggL_law_X7_init : GoodIn wsL_law wsX7_init := goodIn_r _ [8, 9, 10, 11, 12, 13, 14, 15, 16, 17, 18, 19, 20, 21, 22, 23, 24, 25, 26, 27, 28, 29, 30, 31, 32, 33, 34, 35, 36, 37, 38, 39, 40, 41, 42, 43, 44, 45, 46, 47, 48, 49, 50, 51, 52, 53, 54, 55, 56, 57, 58, 59, 60, 61, 62, 63, 64, 65, 66, 67, 68, 69, 70, 71, 72, 73, 74, 75, 76, 77, 78, 79, 80, 81, 82, 83, 84, 85, 86, 619, 620, 621, 622, 596, 597, 598, 599, 600, 601, 602, 623, 624, 625, 626, 627, 628, 629, 630, 631, 632, 633, 634, 635, 636, 637, 638, 639, 640, 641] (by decide +kernel) (by decide +kernel)
set_option maxRecDepth 20000 in
theorem gL_law_X7_init : GoodIn wsL_law (wsX7_init) := ggL_law_X7_init
set_option maxRecDepth 20000 in
theorem ggL_law_X8_init : GoodIn wsL_law wsX8_init := goodIn_r _ [89, 90, 10, 11, 43, 91, 92, 93, 94, 95, 96, 97, 98, 99, 46, 100, 101, 102, 103, 104, 105, 106, 603, 604, 605, 606, 607, 608, 609, 610, 611, 612, 613, 614, 615, 616, 617, 618] (by decide +kernel) (by decide +kernel)
set_option maxRecDepth 20000 in
theorem gL_law_X8_init : GoodIn wsL_law (wsX8_init) := ggL_law_X8_init
set_option maxRecDepth 20000 in
theorem ggL_law_X7_open : GoodIn wsL_law wsX7_open := goodIn_r _ [110, 15, 111, 112, 113, 14, 114, 115, 116, 117, 118, 45, 119, 120, 121, 122, 48, 123, 124, 125, 126, 127, 128, 129, 130, 44, 596, 597, 598, 599, 600, 601, 602, 619, 620, 621, 622] (by decide +kernel) (by decide +kernel)
set_option maxRecDepth 20000 in
theorem gL_law_X7_open : GoodIn wsL_law (wsV RL 13 RX7 yX7_open wsX7_open) := goodIn_app (goodIn_of _ (by decide +kernel)) ggL_law_X7_open
set_option maxRecDepth 20000 in
theorem ggL_law_X8_open : GoodIn wsL_law wsX8_open := goodIn_r _ [134, 135, 97, 98, 99, 136, 137, 138, 5, 139, 603, 604, 605, 606, 607, 608, 609, 610, 611, 612, 613, 614, 615, 616, 617, 618] (by decide +kernel) (by decide +kernel)
set_option maxRecDepth 20000 in
theorem gL_law_X8_open : GoodIn wsL_law (wsV RL 17 RX8 yX8_open wsX8_open) := goodIn_app (goodIn_of _ (by decide +kernel)) ggL_law_X8_open
set_option maxRecDepth 20000 in
theorem ggL_law_X7_get : GoodIn wsL_law wsX7_get := goodIn_r _ [143, 15, 144, 19, 27, 145, 111, 112, 113, 14, 114, 115, 116, 117, 118, 45, 119, 120, 121, 122, 48, 146, 147, 148, 18, 149, 53, 52, 150, 151, 152, 153, 154, 155, 156, 26, 157, 71, 158, 159, 160, 2, 161, 35, 162, 163, 164, 165, 166, 167, 168, 169, 47, 44, 170, 171, 172, 173, 174, 175, 176, 177, 68, 178, 179, 180, 181, 69, 70, 182, 183, 184, 34, 185, 81, 186, 187, 188, 189, 80, 190, 191, 192, 193, 194, 195, 196, 197, 198, 199, 200, 201, 202, 203, 204, 205, 206, 23, 207, 208, 209, 210, 211, 212, 213, 214, 22, 215, 63, 62, 57, 58, 216, 217, 218, 219, 220, 221, 222, 223, 60, 224, 225, 226, 227, 228, 59, 596, 597, 598, 599, 600, 601, 602, 619, 620, 621, 622, 623, 624, 633, 634, 635, 636, 639, 640, 625, 626, 627, 628, 629, 630, 631, 632] (by decide +kernel) (by decide +kernel)
set_option maxRecDepth 20000 in
theorem gL_law_X7_get : GoodIn wsL_law (wsV RL 18 RX7 yX7_get wsX7_get) := goodIn_app (goodIn_of _ (by decide +kernel)) ggL_law_X7_get
set_option maxRecDepth 20000 in
theorem ggL_law_X8_get : GoodIn wsL_law wsX8_get := goodIn_r _ [232, 94, 233, 95, 234, 235, 236, 237, 238, 5, 239, 240, 91, 136, 137, 138, 139, 135, 98, 241, 242, 243, 244, 245, 246, 247, 248, 99, 100, 96, 249, 250, 251, 252, 253, 254, 255, 256, 257, 258, 259, 260, 97, 261, 262, 263, 264, 603, 604, 605, 606, 607, 608, 609, 610, 611, 612, 613, 614, 615, 616, 617, 618] (by decide +kernel) (by decide +kernel)
set_option maxRecDepth 20000 in
theorem gL_law_X8_get : GoodIn wsL_law (wsV RL 22 RX8 yX8_get wsX8_get) := goodIn_app (goodIn_of _ (by decide +kernel)) ggL_law_X8_get
set_option maxRecDepth 20000 in
theorem ggL_law_X7_put : GoodIn wsL_law wsX7_put := goodIn_r _ [268, 269, 270, 271, 2, 272, 15, 19, 27, 23, 206, 31, 273, 116, 117, 14, 118, 45, 119, 120, 121, 122, 48, 146, 147, 148, 18, 149, 53, 52, 150, 151, 152, 153, 154, 155, 156, 26, 157, 71, 274, 275, 276, 22, 277, 62, 158, 159, 160, 161, 35, 162, 163, 164, 165, 166, 167, 168, 169, 47, 44, 170, 171, 172, 173, 174, 175, 176, 177, 68, 178, 179, 180, 181, 69, 70, 182, 183, 184, 34, 185, 81, 186, 187, 188, 189, 80, 202, 203, 204, 205, 207, 208, 209, 210, 211, 212, 213, 214, 215, 63, 57, 58, 216, 217, 218, 219, 220, 221, 222, 223, 60, 224, 225, 226, 227, 228, 59, 190, 191, 192, 193, 194, 195, 196, 197, 198, 199, 200, 201, 278, 279, 280, 30, 281, 76, 282, 283, 284, 285, 61, 596, 597, 598, 599, 600, 601, 602, 619, 620, 621, 622, 623, 624, 633, 634, 635, 636, 625, 626, 627, 628, 629, 630, 631, 632, 639, 640, 637, 638] (by decide +kernel) (by decide +kernel)
set_option maxRecDepth 20000 in
theorem gL_law_X7_put : GoodIn wsL_law (wsV RL 23 RX7 yX7_put wsX7_put) := goodIn_app (goodIn_of _ (by decide +kernel)) ggL_law_X7_put
set_option maxRecDepth 20000 in
theorem ggL_law_X8_put : GoodIn wsL_law wsX8_put := goodIn_r _ [289, 94, 95, 136, 137, 138, 5, 139, 135, 98, 241, 242, 243, 244, 91, 240, 236, 237, 238, 239, 245, 246, 247, 248, 99, 100, 96, 249, 250, 251, 252, 253, 254, 255, 256, 257, 258, 259, 260, 97, 290, 291, 292, 293, 261, 262, 263, 264, 603, 604, 605, 606, 607, 608, 609, 610, 611, 612, 613, 614, 615, 616, 617, 618] (by decide +kernel) (by decide +kernel)
set_option maxRecDepth 20000 in
theorem gL_law_X8_put : GoodIn wsL_law (wsV RL 27 RX8 yX8_put wsX8_put) := goodIn_app (goodIn_of _ (by decide +kernel)) ggL_law_X8_put
set_option maxRecDepth 20000 in
theorem ggL_law_X7_take : GoodIn wsL_law wsX7_take := goodIn_r _ [297, 269, 270, 271, 2, 272, 15, 19, 27, 23, 206, 31, 273, 116, 117, 14, 118, 45, 119, 120, 121, 122, 48, 146, 147, 148, 18, 149, 53, 52, 150, 151, 152, 153, 154, 155, 156, 26, 157, 71, 274, 275, 276, 22, 277, 62, 158, 159, 160, 161, 35, 162, 163, 164, 165, 166, 167, 168, 169, 47, 44, 170, 171, 172, 173, 174, 175, 176, 177, 68, 178, 179, 180, 181, 69, 70, 182, 183, 184, 34, 185, 81, 186, 187, 188, 189, 80, 202, 203, 204, 205, 207, 208, 209, 210, 211, 212, 213, 214, 215, 63, 57, 58, 216, 217, 218, 219, 220, 221, 222, 223, 60, 224, 225, 226, 227, 228, 59, 190, 191, 192, 193, 194, 195, 196, 197, 198, 199, 200, 201, 278, 279, 280, 30, 281, 76, 282, 283, 284, 285, 61, 596, 597, 598, 599, 600, 601, 602, 619, 620, 621, 622, 623, 624, 633, 634, 635, 636, 625, 626, 627, 628, 629, 630, 631, 632, 639, 640, 637, 638] (by decide +kernel) (by decide +kernel)
set_option maxRecDepth 20000 in
theorem gL_law_X7_take : GoodIn wsL_law (wsV RL 28 RX7 yX7_take wsX7_take) := goodIn_app (goodIn_of _ (by decide +kernel)) ggL_law_X7_take
set_option maxRecDepth 20000 in
theorem ggL_law_X8_take : GoodIn wsL_law wsX8_take := goodIn_r _ [301, 94, 95, 136, 137, 138, 5, 139, 135, 98, 241, 242, 243, 244, 91, 240, 236, 237, 238, 239, 245, 246, 247, 248, 99, 100, 96, 249, 250, 251, 252, 253, 254, 255, 256, 257, 258, 259, 260, 97, 290, 291, 292, 293, 261, 262, 263, 264, 603, 604, 605, 606, 607, 608, 609, 610, 611, 612, 613, 614, 615, 616, 617, 618] (by decide +kernel) (by decide +kernel)
set_option maxRecDepth 20000 in
theorem gL_law_X8_take : GoodIn wsL_law (wsV RL 32 RX8 yX8_take wsX8_take) := goodIn_app (goodIn_of _ (by decide +kernel)) ggL_law_X8_take
set_option maxRecDepth 20000 in
theorem ggL_law_X7_mark : GoodIn wsL_law wsX7_mark := goodIn_r _ [305, 15, 31, 273, 116, 117, 14, 118, 45, 119, 120, 121, 122, 48, 306, 307, 308, 30, 309, 76, 310, 311, 312, 313, 75, 314, 315, 316, 317, 596, 597, 598, 599, 600, 601, 602, 619, 620, 621, 622, 637, 638] (by decide +kernel) (by decide +kernel)
set_option maxRecDepth 20000 in
theorem gL_law_X7_mark : GoodIn wsL_law (wsV RL 33 RX7 yX7_mark wsX7_mark) := goodIn_app (goodIn_of _ (by decide +kernel)) ggL_law_X7_mark
set_option maxRecDepth 20000 in
theorem ggL_law_X8_mark : GoodIn wsL_law wsX8_mark := goodIn_r _ [321, 101, 322, 102, 104, 94, 105, 95, 136, 137, 138, 5, 139, 135, 98, 323, 324, 325, 326, 603, 604, 605, 606, 607, 608, 609, 610, 611, 612, 613, 614, 615, 616, 617, 618] (by decide +kernel) (by decide +kernel)
set_option maxRecDepth 20000 in
theorem gL_law_X8_mark : GoodIn wsL_law (wsV RL 36 RX8 yX8_mark wsX8_mark) := goodIn_app (goodIn_of _ (by decide +kernel)) ggL_law_X8_mark
set_option maxRecDepth 20000 in
theorem ggL_law_X7_back : GoodIn wsL_law wsX7_back := goodIn_r _ [330, 31, 23, 331, 332, 333, 2, 334, 15, 273, 116, 117, 14, 118, 45, 119, 120, 121, 122, 48, 335, 336, 337, 338, 44, 339, 340, 341, 30, 342, 76, 75, 343, 344, 345, 346, 347, 348, 349, 350, 351, 352, 353, 22, 354, 63, 64, 355, 356, 357, 358, 62, 57, 58, 216, 217, 218, 219, 359, 360, 361, 362, 61, 363, 364, 365, 366, 60, 59, 596, 597, 598, 599, 600, 601, 602, 619, 620, 621, 622, 637, 638, 625, 626, 627, 628, 629, 630, 631, 632] (by decide +kernel) (by decide +kernel)
set_option maxRecDepth 20000 in
theorem gL_law_X7_back : GoodIn wsL_law (wsV RL 37 RX7 yX7_back wsX7_back) := goodIn_app (goodIn_of _ (by decide +kernel)) ggL_law_X7_back
set_option maxRecDepth 20000 in
theorem ggL_law_X8_back : GoodIn wsL_law wsX8_back := goodIn_r _ [370, 322, 101, 102, 136, 137, 138, 5, 139, 135, 98, 371, 372, 373, 374, 97, 323, 324, 325, 326, 375, 376, 377, 378, 94, 104, 95, 105, 603, 604, 605, 606, 607, 608, 609, 610, 611, 612, 613, 614, 615, 616, 617, 618] (by decide +kernel) (by decide +kernel)
set_option maxRecDepth 20000 in
theorem gL_law_X8_back : GoodIn wsL_law (wsV RL 40 RX8 yX8_back wsX8_back) := goodIn_app (goodIn_of _ (by decide +kernel)) ggL_law_X8_back
set_option maxRecDepth 20000 in
theorem ggL_law_X7_commit : GoodIn wsL_law wsX7_commit := goodIn_r _ [382, 23, 15, 31, 27, 331, 332, 333, 2, 334, 273, 116, 117, 14, 118, 45, 119, 120, 121, 122, 48, 335, 336, 337, 338, 44, 383, 384, 385, 22, 386, 63, 355, 356, 357, 358, 62, 57, 58, 216, 217, 218, 219, 387, 388, 389, 390, 278, 279, 280, 30, 281, 76, 391, 392, 393, 394, 61, 395, 396, 397, 26, 398, 71, 68, 69, 70, 194, 195, 196, 197, 198, 199, 200, 201, 399, 400, 401, 402, 35, 403, 404, 405, 406, 407, 408, 409, 410, 359, 360, 361, 362, 411, 412, 413, 414, 415, 416, 417, 418, 419, 344, 345, 346, 75, 182, 183, 184, 34, 185, 81, 596, 597, 598, 599, 600, 601, 602, 619, 620, 621, 622, 625, 626, 627, 628, 629, 630, 631, 632, 637, 638, 633, 634, 635, 636, 639, 640] (by decide +kernel) (by decide +kernel)
set_option maxRecDepth 20000 in
theorem gL_law_X7_commit : GoodIn wsL_law (wsV RL 41 RX7 yX7_commit wsX7_commit) := goodIn_app (goodIn_of _ (by decide +kernel)) ggL_law_X7_commit
set_option maxRecDepth 20000 in
theorem ggL_law_X8_commit : GoodIn wsL_law wsX8_commit := goodIn_r _ [423, 97, 94, 95, 96, 136, 137, 138, 5, 139, 135, 98, 371, 372, 373, 374, 424, 425, 426, 427, 322, 102, 101, 603, 604, 605, 606, 607, 608, 609, 610, 611, 612, 613, 614, 615, 616, 617, 618] (by decide +kernel) (by decide +kernel)
set_option maxRecDepth 20000 in
theorem gL_law_X8_commit : GoodIn wsL_law (wsV RL 44 RX8 yX8_commit wsX8_commit) := goodIn_app (goodIn_of _ (by decide +kernel)) ggL_law_X8_commit
set_option maxRecDepth 20000 in
theorem ggL_law_X7_abort : GoodIn wsL_law wsX7_abort := goodIn_r _ [431, 15, 273, 116, 117, 14, 118, 45, 119, 120, 121, 122, 48, 399, 400, 401, 2, 402, 23, 27, 31, 35, 403, 404, 405, 406, 407, 408, 409, 22, 410, 359, 360, 361, 362, 62, 57, 61, 411, 412, 413, 26, 414, 71, 68, 415, 416, 417, 30, 418, 419, 344, 345, 346, 76, 75, 182, 183, 184, 34, 185, 81, 432, 433, 434, 435, 436, 437, 438, 439, 44, 115, 440, 112, 113, 114, 596, 597, 598, 599, 600, 601, 602, 619, 620, 621, 622, 625, 626, 627, 628, 629, 630, 631, 632, 633, 634, 635, 636, 637, 638, 639, 640] (by decide +kernel) (by decide +kernel)
set_option maxRecDepth 20000 in
theorem gL_law_X7_abort : GoodIn wsL_law (wsV RL 45 RX7 yX7_abort wsX7_abort) := goodIn_app (goodIn_of _ (by decide +kernel)) ggL_law_X7_abort
set_option maxRecDepth 20000 in
theorem ggL_law_X8_abort : GoodIn wsL_law wsX8_abort := goodIn_r _ [444, 135, 136, 137, 138, 5, 139, 98, 257, 258, 259, 260, 97, 424, 425, 426, 427, 94, 95, 96, 322, 102, 101, 603, 604, 605, 606, 607, 608, 609, 610, 611, 612, 613, 614, 615, 616, 617, 618] (by decide +kernel) (by decide +kernel)
set_option maxRecDepth 20000 in
theorem gL_law_X8_abort : GoodIn wsL_law (wsV RL 48 RX8 yX8_abort wsX8_abort) := goodIn_app (goodIn_of _ (by decide +kernel)) ggL_law_X8_abort
set_option maxRecDepth 20000 in
theorem ggL_law_X7_state : GoodIn wsL_law wsX7_state := goodIn_r _ [448, 15, 449, 120, 121, 14, 122, 48, 450, 451, 452, 453, 45, 596, 597, 598, 599, 600, 601, 602, 619, 620, 621, 622] (by decide +kernel) (by decide +kernel)
set_option maxRecDepth 20000 in
theorem gL_law_X7_state : GoodIn wsL_law (wsV RL 49 RX7 yX7_state wsX7_state) := goodIn_app (goodIn_of _ (by decide +kernel)) ggL_law_X7_state
set_option maxRecDepth 20000 in
theorem ggL_law_X8_state : GoodIn wsL_law wsX8_state := goodIn_r _ [457, 135, 98, 603, 604, 605, 606, 607, 608, 609, 610, 611, 612, 613, 614, 615, 616, 617, 618] (by decide +kernel) (by decide +kernel)
set_option maxRecDepth 20000 in
theorem gL_law_X8_state : GoodIn wsL_law (wsV RL 52 RX8 yX8_state wsX8_state) := goodIn_app (goodIn_of _ (by decide +kernel)) ggL_law_X8_state
set_option maxRecDepth 20000 in
theorem ggL_law_X7_told : GoodIn wsL_law wsX7_told := goodIn_r _ [461, 15, 31, 23, 27, 449, 120, 121, 14, 122, 48, 387, 388, 389, 390, 44, 335, 336, 337, 338, 45, 462, 315, 316, 30, 317, 76, 75, 383, 384, 385, 22, 386, 63, 355, 356, 357, 358, 62, 57, 58, 216, 217, 218, 219, 463, 464, 465, 26, 466, 71, 68, 70, 596, 597, 598, 599, 600, 601, 602, 619, 620, 621, 622, 637, 638, 625, 626, 627, 628, 629, 630, 631, 632, 633, 634, 635, 636] (by decide +kernel) (by decide +kernel)
set_option maxRecDepth 20000 in
theorem gL_law_X7_told : GoodIn wsL_law (wsV RL 53 RX7 yX7_told wsX7_told) := goodIn_app (goodIn_of _ (by decide +kernel)) ggL_law_X7_told
set_option maxRecDepth 20000 in
theorem ggL_law_X8_told : GoodIn wsL_law wsX8_told := goodIn_r _ [470, 135, 97, 94, 96, 371, 372, 373, 5, 374, 136, 137, 138, 139, 98, 323, 324, 325, 326, 322, 101, 102, 603, 604, 605, 606, 607, 608, 609, 610, 611, 612, 613, 614, 615, 616, 617, 618] (by decide +kernel) (by decide +kernel)
set_option maxRecDepth 20000 in
theorem gL_law_X8_told : GoodIn wsL_law (wsV RL 56 RX8 yX8_told wsX8_told) := goodIn_app (goodIn_of _ (by decide +kernel)) ggL_law_X8_told
set_option maxRecDepth 20000 in
theorem ggL_law_X7_held : GoodIn wsL_law wsX7_held := goodIn_r _ [474, 15, 27, 19, 273, 116, 117, 14, 118, 45, 119, 120, 121, 122, 48, 207, 151, 152, 18, 153, 53, 52, 475, 476, 477, 26, 478, 70, 198, 199, 200, 201, 71, 68, 69, 596, 597, 598, 599, 600, 601, 602, 619, 620, 621, 622, 623, 624, 633, 634, 635, 636] (by decide +kernel) (by decide +kernel)
set_option maxRecDepth 20000 in
theorem gL_law_X7_held : GoodIn wsL_law (wsV RL 57 RX7 yX7_held wsX7_held) := goodIn_app (goodIn_of _ (by decide +kernel)) ggL_law_X7_held
set_option maxRecDepth 20000 in
theorem ggL_law_X8_held : GoodIn wsL_law wsX8_held := goodIn_r _ [482, 96, 136, 137, 138, 5, 139, 135, 98, 236, 237, 238, 239, 240, 91, 603, 604, 605, 606, 607, 608, 609, 610, 611, 612, 613, 614, 615, 616, 617, 618] (by decide +kernel) (by decide +kernel)
set_option maxRecDepth 20000 in
theorem gL_law_X8_held : GoodIn wsL_law (wsV RL 60 RX8 yX8_held wsX8_held) := goodIn_app (goodIn_of _ (by decide +kernel)) ggL_law_X8_held
set_option maxRecDepth 20000 in
theorem ggL_law_X7_blocker : GoodIn wsL_law wsX7_blocker := goodIn_r _ [486, 15, 19, 273, 116, 117, 14, 118, 45, 119, 120, 121, 122, 48, 207, 151, 152, 18, 153, 53, 52, 162, 163, 164, 2, 165, 27, 166, 167, 168, 169, 47, 44, 170, 171, 172, 173, 174, 175, 176, 26, 177, 71, 68, 178, 179, 180, 181, 69, 70, 596, 597, 598, 599, 600, 601, 602, 619, 620, 621, 622, 623, 624, 633, 634, 635, 636] (by decide +kernel) (by decide +kernel)
set_option maxRecDepth 20000 in
theorem gL_law_X7_blocker : GoodIn wsL_law (wsV RL 61 RX7 yX7_blocker wsX7_blocker) := goodIn_app (goodIn_of _ (by decide +kernel)) ggL_law_X7_blocker
set_option maxRecDepth 20000 in
theorem ggL_law_X8_blocker : GoodIn wsL_law wsX8_blocker := goodIn_r _ [490, 136, 137, 138, 5, 139, 135, 98, 236, 237, 238, 239, 240, 91, 249, 250, 251, 252, 253, 254, 255, 256, 96, 257, 258, 259, 260, 97, 603, 604, 605, 606, 607, 608, 609, 610, 611, 612, 613, 614, 615, 616, 617, 618] (by decide +kernel) (by decide +kernel)
set_option maxRecDepth 20000 in
theorem gL_law_X8_blocker : GoodIn wsL_law (wsV RL 65 RX8 yX8_blocker wsX8_blocker) := goodIn_app (goodIn_of _ (by decide +kernel)) ggL_law_X8_blocker
set_option maxRecDepth 20000 in
theorem ggL_law_X7_waits : GoodIn wsL_law wsX7_waits := goodIn_r _ [494, 15, 35, 273, 116, 117, 14, 118, 45, 119, 120, 121, 122, 48, 495, 496, 497, 34, 498, 81, 499, 500, 501, 502, 80, 503, 504, 505, 506, 162, 163, 164, 2, 165, 27, 166, 167, 168, 169, 47, 44, 170, 171, 172, 173, 174, 175, 176, 26, 177, 71, 68, 178, 179, 180, 181, 69, 70, 596, 597, 598, 599, 600, 601, 602, 619, 620, 621, 622, 639, 640, 633, 634, 635, 636] (by decide +kernel) (by decide +kernel)
set_option maxRecDepth 20000 in
theorem gL_law_X7_waits : GoodIn wsL_law (wsV RL 66 RX7 yX7_waits wsX7_waits) := goodIn_app (goodIn_of _ (by decide +kernel)) ggL_law_X7_waits
set_option maxRecDepth 20000 in
theorem ggL_law_X8_waits : GoodIn wsL_law wsX8_waits := goodIn_r _ [510, 99, 100, 136, 137, 138, 5, 139, 135, 98, 249, 250, 251, 252, 253, 254, 255, 256, 96, 257, 258, 259, 260, 97, 603, 604, 605, 606, 607, 608, 609, 610, 611, 612, 613, 614, 615, 616, 617, 618] (by decide +kernel) (by decide +kernel)
set_option maxRecDepth 20000 in
theorem gL_law_X8_waits : GoodIn wsL_law (wsV RL 69 RX8 yX8_waits wsX8_waits) := goodIn_app (goodIn_of _ (by decide +kernel)) ggL_law_X8_waits
set_option maxRecDepth 20000 in
theorem ggL_law_X7_ring : GoodIn wsL_law wsX7_ring := goodIn_r _ [514, 39, 15, 515, 516, 517, 2, 518, 35, 27, 519, 520, 521, 38, 522, 86, 523, 524, 218, 525, 432, 433, 434, 14, 435, 48, 495, 496, 497, 34, 498, 81, 166, 167, 168, 169, 47, 44, 170, 171, 172, 173, 526, 527, 528, 26, 529, 71, 68, 530, 500, 501, 502, 80, 531, 504, 505, 506, 178, 179, 180, 181, 69, 70, 532, 533, 534, 535, 536, 537, 538, 539, 540, 541, 542, 543, 544, 545, 546, 547, 548, 596, 597, 598, 599, 600, 601, 602, 641, 619, 620, 621, 622, 639, 640, 633, 634, 635, 636] (by decide +kernel) (by decide +kernel)
set_option maxRecDepth 20000 in
theorem gL_law_X7_ring : GoodIn wsL_law (wsV RL 70 RX7 yX7_ring wsX7_ring) := goodIn_app (goodIn_of _ (by decide +kernel)) ggL_law_X7_ring
set_option maxRecDepth 20000 in
theorem ggL_law_X8_ring : GoodIn wsL_law wsX8_ring := goodIn_r _ [552, 135, 106, 553, 554, 555, 5, 556, 99, 100, 136, 137, 138, 139, 98, 253, 254, 255, 256, 96, 257, 258, 259, 260, 97, 603, 604, 605, 606, 607, 608, 609, 610, 611, 612, 613, 614, 615, 616, 617, 618] (by decide +kernel) (by decide +kernel)
set_option maxRecDepth 20000 in
theorem gL_law_X8_ring : GoodIn wsL_law (wsV RL 74 RX8 yX8_ring wsX8_ring) := goodIn_app (goodIn_of _ (by decide +kernel)) ggL_law_X8_ring
set_option maxRecDepth 20000 in
theorem ggL_law_X7_size : GoodIn wsL_law wsX7_size := goodIn_r _ [560, 15, 19, 23, 111, 112, 113, 14, 114, 115, 116, 117, 118, 45, 119, 120, 121, 122, 48, 208, 209, 210, 2, 211, 166, 167, 168, 169, 47, 44, 170, 171, 172, 173, 212, 213, 214, 22, 215, 63, 62, 57, 58, 216, 217, 218, 219, 561, 562, 563, 18, 564, 53, 220, 221, 222, 223, 60, 596, 597, 598, 599, 600, 601, 602, 619, 620, 621, 622, 625, 626, 627, 628, 629, 630, 631, 632, 623, 624] (by decide +kernel) (by decide +kernel)
set_option maxRecDepth 20000 in
theorem gL_law_X7_size : GoodIn wsL_law (wsV RL 75 RX7 yX7_size wsX7_size) := goodIn_app (goodIn_of _ (by decide +kernel)) ggL_law_X7_size
set_option maxRecDepth 20000 in
theorem ggL_law_X8_size : GoodIn wsL_law wsX8_size := goodIn_r _ [568, 240, 569, 570, 571, 5, 572, 136, 137, 138, 139, 135, 98, 290, 291, 292, 293, 261, 262, 263, 264, 94, 97, 603, 604, 605, 606, 607, 608, 609, 610, 611, 612, 613, 614, 615, 616, 617, 618] (by decide +kernel) (by decide +kernel)
set_option maxRecDepth 20000 in
theorem gL_law_X8_size : GoodIn wsL_law (wsV RL 78 RX8 yX8_size wsX8_size) := goodIn_app (goodIn_of _ (by decide +kernel)) ggL_law_X8_size
set_option maxRecDepth 20000 in
theorem ggL_law_X7_next : GoodIn wsL_law wsX7_next := goodIn_r _ [576, 15, 144, 206, 19, 23, 577, 578, 196, 579, 111, 112, 113, 14, 114, 115, 116, 117, 118, 45, 119, 120, 121, 122, 48, 208, 209, 210, 2, 211, 166, 167, 168, 169, 47, 44, 170, 171, 172, 173, 212, 213, 214, 22, 215, 63, 62, 57, 58, 216, 217, 218, 219, 561, 562, 563, 18, 564, 53, 580, 581, 582, 583, 52, 220, 221, 222, 223, 60, 596, 597, 598, 599, 600, 601, 602, 619, 620, 621, 622, 625, 626, 627, 628, 629, 630, 631, 632, 623, 624] (by decide +kernel) (by decide +kernel)
set_option maxRecDepth 20000 in
theorem gL_law_X7_next : GoodIn wsL_law (wsV RL 79 RX7 yX7_next wsX7_next) := goodIn_app (goodIn_of _ (by decide +kernel)) ggL_law_X7_next
set_option maxRecDepth 20000 in
theorem ggL_law_X8_next : GoodIn wsL_law wsX8_next := goodIn_r _ [587, 234, 233, 240, 91, 569, 570, 571, 5, 572, 136, 137, 138, 139, 135, 98, 290, 291, 292, 293, 261, 262, 263, 264, 94, 97, 603, 604, 605, 606, 607, 608, 609, 610, 611, 612, 613, 614, 615, 616, 617, 618] (by decide +kernel) (by decide +kernel)
set_option maxRecDepth 20000 in
theorem gL_law_X8_next : GoodIn wsL_law (wsV RL 82 RX8 yX8_next wsX8_next) := goodIn_app (goodIn_of _ (by decide +kernel)) ggL_law_X8_next
set_option maxRecDepth 20000 in
theorem ggL_law_X7_sum : GoodIn wsL_law wsX7_sum := goodIn_r _ [591, 15, 144, 19, 23, 111, 112, 113, 14, 114, 115, 116, 117, 118, 45, 119, 120, 121, 122, 48, 208, 209, 210, 2, 211, 166, 167, 168, 169, 47, 44, 170, 171, 172, 173, 212, 213, 214, 22, 215, 63, 62, 57, 58, 216, 217, 218, 219, 561, 562, 563, 18, 564, 53, 580, 581, 582, 583, 52, 220, 221, 222, 223, 60, 224, 225, 226, 227, 228, 59, 596, 597, 598, 599, 600, 601, 602, 619, 620, 621, 622, 625, 626, 627, 628, 629, 630, 631, 632, 623, 624] (by decide +kernel) (by decide +kernel)
set_option maxRecDepth 20000 in
theorem gL_law_X7_sum : GoodIn wsL_law (wsV RL 83 RX7 yX7_sum wsX7_sum) := goodIn_app (goodIn_of _ (by decide +kernel)) ggL_law_X7_sum
set_option maxRecDepth 20000 in
theorem ggL_law_X8_sum : GoodIn wsL_law wsX8_sum := goodIn_r _ [595, 234, 240, 91, 95, 569, 570, 571, 5, 572, 136, 137, 138, 139, 135, 98, 290, 291, 292, 293, 261, 262, 263, 264, 94, 97, 603, 604, 605, 606, 607, 608, 609, 610, 611, 612, 613, 614, 615, 616, 617, 618] (by decide +kernel) (by decide +kernel)
set_option maxRecDepth 20000 in
theorem gL_law_X8_sum : GoodIn wsL_law (wsV RL 87 RX8 yX8_sum wsX8_sum) := goodIn_app (goodIn_of _ (by decide +kernel)) ggL_law_X8_sum
theorem dL_law_0 : decode cL_law 0 = .ok (.new 7, 3) := by decide +kernel
theorem dL_law_3 : decode cL_law 3 = .ok (.dup, 1) := by decide +kernel
theorem dL_law_4 : decode cL_law 4 = .ok (.invokespecial 9, 3) := by decide +kernel
theorem dL_law_7 : decode cL_law 7 = .ok (.astore_n 1, 1) := by decide +kernel
theorem dL_law_8 : decode cL_law 8 = .ok (.new 10, 3) := by decide +kernel
theorem dL_law_11 : decode cL_law 11 = .ok (.dup, 1) := by decide +kernel
theorem dL_law_12 : decode cL_law 12 = .ok (.invokespecial 12, 3) := by decide +kernel
theorem dL_law_15 : decode cL_law 15 = .ok (.astore_n 2, 1) := by decide +kernel
theorem dL_law_16 : decode cL_law 16 = .ok (.iconst 0, 1) := by decide +kernel
theorem dL_law_17 : decode cL_law 17 = .ok (.istore_n 3, 1) := by decide +kernel
theorem dL_law_18 : decode cL_law 18 = .ok (.iload_n 3, 1) := by decide +kernel
theorem dL_law_19 : decode cL_law 19 = .ok (.aload_n 0, 1) := by decide +kernel
theorem dL_law_20 : decode cL_law 20 = .ok (.arraylength, 1) := by decide +kernel
theorem dL_law_21 : decode cL_law 21 = .ok (.iconst 4, 1) := by decide +kernel
theorem dL_law_22 : decode cL_law 22 = .ok (.isub, 1) := by decide +kernel
theorem dL_law_23 : decode cL_law 23 = .ok (.if_icmp .gt 619, 3) := by decide +kernel
theorem dL_law_26 : decode cL_law 26 = .ok (.aload_n 0, 1) := by decide +kernel
theorem dL_law_27 : decode cL_law 27 = .ok (.iload_n 3, 1) := by decide +kernel
theorem dL_law_28 : decode cL_law 28 = .ok (.iaload, 1) := by decide +kernel
theorem dL_law_29 : decode cL_law 29 = .ok (.bipush 31, 2) := by decide +kernel
theorem dL_law_31 : decode cL_law 31 = .ok (.iand, 1) := by decide +kernel
theorem dL_law_32 : decode cL_law 32 = .ok (.tableswitch 604 0 16 #[84, 107, 141, 184, 217, 240, 273, 296, 319, 342, 375, 408, 467, 490, 503, 526, 560], 84) := by decide +kernel
theorem dL_law_116 : decode cL_law 116 = .ok (.aload_n 1, 1) := by decide +kernel
theorem dL_law_117 : decode cL_law 117 = .ok (.aload_n 0, 1) := by decide +kernel
theorem dL_law_118 : decode cL_law 118 = .ok (.iload_n 3, 1) := by decide +kernel
theorem dL_law_119 : decode cL_law 119 = .ok (.iconst 1, 1) := by decide +kernel
theorem dL_law_120 : decode cL_law 120 = .ok (.iadd, 1) := by decide +kernel
theorem dL_law_121 : decode cL_law 121 = .ok (.iaload, 1) := by decide +kernel
theorem dL_law_122 : decode cL_law 122 = .ok (.invokevirtual 13, 3) := by decide +kernel
theorem dL_law_125 : decode cL_law 125 = .ok (.aload_n 2, 1) := by decide +kernel
theorem dL_law_126 : decode cL_law 126 = .ok (.aload_n 0, 1) := by decide +kernel
theorem dL_law_127 : decode cL_law 127 = .ok (.iload_n 3, 1) := by decide +kernel
theorem dL_law_128 : decode cL_law 128 = .ok (.iconst 1, 1) := by decide +kernel
theorem dL_law_129 : decode cL_law 129 = .ok (.iadd, 1) := by decide +kernel
theorem dL_law_130 : decode cL_law 130 = .ok (.iaload, 1) := by decide +kernel
theorem dL_law_131 : decode cL_law 131 = .ok (.invokevirtual 17, 3) := by decide +kernel
theorem dL_law_134 : decode cL_law 134 = .ok (.if_icmp .eq 502, 3) := by decide +kernel
theorem dL_law_137 : decode cL_law 137 = .ok (.iconst 0, 1) := by decide +kernel
theorem dL_law_138 : decode cL_law 138 = .ok (.ireturn, 1) := by decide +kernel
theorem dL_law_139 : decode cL_law 139 = .ok (.aload_n 1, 1) := by decide +kernel
theorem dL_law_140 : decode cL_law 140 = .ok (.aload_n 0, 1) := by decide +kernel
theorem dL_law_141 : decode cL_law 141 = .ok (.iload_n 3, 1) := by decide +kernel
theorem dL_law_142 : decode cL_law 142 = .ok (.iconst 1, 1) := by decide +kernel
theorem dL_law_143 : decode cL_law 143 = .ok (.iadd, 1) := by decide +kernel
theorem dL_law_144 : decode cL_law 144 = .ok (.iaload, 1) := by decide +kernel
theorem dL_law_145 : decode cL_law 145 = .ok (.aload_n 0, 1) := by decide +kernel
theorem dL_law_146 : decode cL_law 146 = .ok (.iload_n 3, 1) := by decide +kernel
theorem dL_law_147 : decode cL_law 147 = .ok (.iconst 2, 1) := by decide +kernel
theorem dL_law_148 : decode cL_law 148 = .ok (.iadd, 1) := by decide +kernel
theorem dL_law_149 : decode cL_law 149 = .ok (.iaload, 1) := by decide +kernel
theorem dL_law_150 : decode cL_law 150 = .ok (.invokevirtual 18, 3) := by decide +kernel
theorem dL_law_153 : decode cL_law 153 = .ok (.aload_n 2, 1) := by decide +kernel
theorem dL_law_154 : decode cL_law 154 = .ok (.aload_n 0, 1) := by decide +kernel
theorem dL_law_155 : decode cL_law 155 = .ok (.iload_n 3, 1) := by decide +kernel
theorem dL_law_156 : decode cL_law 156 = .ok (.iconst 1, 1) := by decide +kernel
theorem dL_law_157 : decode cL_law 157 = .ok (.iadd, 1) := by decide +kernel
theorem dL_law_158 : decode cL_law 158 = .ok (.iaload, 1) := by decide +kernel
theorem dL_law_159 : decode cL_law 159 = .ok (.aload_n 0, 1) := by decide +kernel
theorem dL_law_160 : decode cL_law 160 = .ok (.iload_n 3, 1) := by decide +kernel
theorem dL_law_161 : decode cL_law 161 = .ok (.iconst 2, 1) := by decide +kernel
theorem dL_law_162 : decode cL_law 162 = .ok (.iadd, 1) := by decide +kernel
theorem dL_law_163 : decode cL_law 163 = .ok (.iaload, 1) := by decide +kernel
theorem dL_law_164 : decode cL_law 164 = .ok (.invokevirtual 22, 3) := by decide +kernel
theorem dL_law_167 : decode cL_law 167 = .ok (.lcmp, 1) := by decide +kernel
theorem dL_law_168 : decode cL_law 168 = .ok (.ifCond .eq 468, 3) := by decide +kernel
theorem dL_law_171 : decode cL_law 171 = .ok (.iconst 0, 1) := by decide +kernel
theorem dL_law_172 : decode cL_law 172 = .ok (.ireturn, 1) := by decide +kernel
theorem dL_law_173 : decode cL_law 173 = .ok (.aload_n 1, 1) := by decide +kernel
theorem dL_law_174 : decode cL_law 174 = .ok (.aload_n 0, 1) := by decide +kernel
theorem dL_law_175 : decode cL_law 175 = .ok (.iload_n 3, 1) := by decide +kernel
theorem dL_law_176 : decode cL_law 176 = .ok (.iconst 1, 1) := by decide +kernel
theorem dL_law_177 : decode cL_law 177 = .ok (.iadd, 1) := by decide +kernel
theorem dL_law_178 : decode cL_law 178 = .ok (.iaload, 1) := by decide +kernel
theorem dL_law_179 : decode cL_law 179 = .ok (.aload_n 0, 1) := by decide +kernel
theorem dL_law_180 : decode cL_law 180 = .ok (.iload_n 3, 1) := by decide +kernel
theorem dL_law_181 : decode cL_law 181 = .ok (.iconst 2, 1) := by decide +kernel
theorem dL_law_182 : decode cL_law 182 = .ok (.iadd, 1) := by decide +kernel
theorem dL_law_183 : decode cL_law 183 = .ok (.iaload, 1) := by decide +kernel
theorem dL_law_184 : decode cL_law 184 = .ok (.aload_n 0, 1) := by decide +kernel
theorem dL_law_185 : decode cL_law 185 = .ok (.iload_n 3, 1) := by decide +kernel
theorem dL_law_186 : decode cL_law 186 = .ok (.iconst 3, 1) := by decide +kernel
theorem dL_law_187 : decode cL_law 187 = .ok (.iadd, 1) := by decide +kernel
theorem dL_law_188 : decode cL_law 188 = .ok (.iaload, 1) := by decide +kernel
theorem dL_law_189 : decode cL_law 189 = .ok (.invokevirtual 23, 3) := by decide +kernel
theorem dL_law_192 : decode cL_law 192 = .ok (.aload_n 2, 1) := by decide +kernel
theorem dL_law_193 : decode cL_law 193 = .ok (.aload_n 0, 1) := by decide +kernel
theorem dL_law_194 : decode cL_law 194 = .ok (.iload_n 3, 1) := by decide +kernel
theorem dL_law_195 : decode cL_law 195 = .ok (.iconst 1, 1) := by decide +kernel
theorem dL_law_196 : decode cL_law 196 = .ok (.iadd, 1) := by decide +kernel
theorem dL_law_197 : decode cL_law 197 = .ok (.iaload, 1) := by decide +kernel
theorem dL_law_198 : decode cL_law 198 = .ok (.aload_n 0, 1) := by decide +kernel
theorem dL_law_199 : decode cL_law 199 = .ok (.iload_n 3, 1) := by decide +kernel
theorem dL_law_200 : decode cL_law 200 = .ok (.iconst 2, 1) := by decide +kernel
theorem dL_law_201 : decode cL_law 201 = .ok (.iadd, 1) := by decide +kernel
theorem dL_law_202 : decode cL_law 202 = .ok (.iaload, 1) := by decide +kernel
theorem dL_law_203 : decode cL_law 203 = .ok (.aload_n 0, 1) := by decide +kernel
theorem dL_law_204 : decode cL_law 204 = .ok (.iload_n 3, 1) := by decide +kernel
theorem dL_law_205 : decode cL_law 205 = .ok (.iconst 3, 1) := by decide +kernel
theorem dL_law_206 : decode cL_law 206 = .ok (.iadd, 1) := by decide +kernel
theorem dL_law_207 : decode cL_law 207 = .ok (.iaload, 1) := by decide +kernel
theorem dL_law_208 : decode cL_law 208 = .ok (.invokevirtual 27, 3) := by decide +kernel
theorem dL_law_211 : decode cL_law 211 = .ok (.if_icmp .eq 425, 3) := by decide +kernel
theorem dL_law_214 : decode cL_law 214 = .ok (.iconst 0, 1) := by decide +kernel
theorem dL_law_215 : decode cL_law 215 = .ok (.ireturn, 1) := by decide +kernel
theorem dL_law_216 : decode cL_law 216 = .ok (.aload_n 1, 1) := by decide +kernel
theorem dL_law_217 : decode cL_law 217 = .ok (.aload_n 0, 1) := by decide +kernel
theorem dL_law_218 : decode cL_law 218 = .ok (.iload_n 3, 1) := by decide +kernel
theorem dL_law_219 : decode cL_law 219 = .ok (.iconst 1, 1) := by decide +kernel
theorem dL_law_220 : decode cL_law 220 = .ok (.iadd, 1) := by decide +kernel
theorem dL_law_221 : decode cL_law 221 = .ok (.iaload, 1) := by decide +kernel
theorem dL_law_222 : decode cL_law 222 = .ok (.aload_n 0, 1) := by decide +kernel
theorem dL_law_223 : decode cL_law 223 = .ok (.iload_n 3, 1) := by decide +kernel
theorem dL_law_224 : decode cL_law 224 = .ok (.iconst 2, 1) := by decide +kernel
theorem dL_law_225 : decode cL_law 225 = .ok (.iadd, 1) := by decide +kernel
theorem dL_law_226 : decode cL_law 226 = .ok (.iaload, 1) := by decide +kernel
theorem dL_law_227 : decode cL_law 227 = .ok (.invokevirtual 28, 3) := by decide +kernel
theorem dL_law_230 : decode cL_law 230 = .ok (.aload_n 2, 1) := by decide +kernel
theorem dL_law_231 : decode cL_law 231 = .ok (.aload_n 0, 1) := by decide +kernel
theorem dL_law_232 : decode cL_law 232 = .ok (.iload_n 3, 1) := by decide +kernel
theorem dL_law_233 : decode cL_law 233 = .ok (.iconst 1, 1) := by decide +kernel
theorem dL_law_234 : decode cL_law 234 = .ok (.iadd, 1) := by decide +kernel
theorem dL_law_235 : decode cL_law 235 = .ok (.iaload, 1) := by decide +kernel
theorem dL_law_236 : decode cL_law 236 = .ok (.aload_n 0, 1) := by decide +kernel
theorem dL_law_237 : decode cL_law 237 = .ok (.iload_n 3, 1) := by decide +kernel
theorem dL_law_238 : decode cL_law 238 = .ok (.iconst 2, 1) := by decide +kernel
theorem dL_law_239 : decode cL_law 239 = .ok (.iadd, 1) := by decide +kernel
theorem dL_law_240 : decode cL_law 240 = .ok (.iaload, 1) := by decide +kernel
theorem dL_law_241 : decode cL_law 241 = .ok (.invokevirtual 32, 3) := by decide +kernel
theorem dL_law_244 : decode cL_law 244 = .ok (.if_icmp .eq 392, 3) := by decide +kernel
theorem dL_law_247 : decode cL_law 247 = .ok (.iconst 0, 1) := by decide +kernel
theorem dL_law_248 : decode cL_law 248 = .ok (.ireturn, 1) := by decide +kernel
theorem dL_law_249 : decode cL_law 249 = .ok (.aload_n 1, 1) := by decide +kernel
theorem dL_law_250 : decode cL_law 250 = .ok (.aload_n 0, 1) := by decide +kernel
theorem dL_law_251 : decode cL_law 251 = .ok (.iload_n 3, 1) := by decide +kernel
theorem dL_law_252 : decode cL_law 252 = .ok (.iconst 1, 1) := by decide +kernel
theorem dL_law_253 : decode cL_law 253 = .ok (.iadd, 1) := by decide +kernel
theorem dL_law_254 : decode cL_law 254 = .ok (.iaload, 1) := by decide +kernel
theorem dL_law_255 : decode cL_law 255 = .ok (.invokevirtual 33, 3) := by decide +kernel
theorem dL_law_258 : decode cL_law 258 = .ok (.aload_n 2, 1) := by decide +kernel
theorem dL_law_259 : decode cL_law 259 = .ok (.aload_n 0, 1) := by decide +kernel
theorem dL_law_260 : decode cL_law 260 = .ok (.iload_n 3, 1) := by decide +kernel
theorem dL_law_261 : decode cL_law 261 = .ok (.iconst 1, 1) := by decide +kernel
theorem dL_law_262 : decode cL_law 262 = .ok (.iadd, 1) := by decide +kernel
theorem dL_law_263 : decode cL_law 263 = .ok (.iaload, 1) := by decide +kernel
theorem dL_law_264 : decode cL_law 264 = .ok (.invokevirtual 36, 3) := by decide +kernel
theorem dL_law_267 : decode cL_law 267 = .ok (.if_icmp .eq 369, 3) := by decide +kernel
theorem dL_law_270 : decode cL_law 270 = .ok (.iconst 0, 1) := by decide +kernel
theorem dL_law_271 : decode cL_law 271 = .ok (.ireturn, 1) := by decide +kernel
theorem dL_law_272 : decode cL_law 272 = .ok (.aload_n 1, 1) := by decide +kernel
theorem dL_law_273 : decode cL_law 273 = .ok (.aload_n 0, 1) := by decide +kernel
theorem dL_law_274 : decode cL_law 274 = .ok (.iload_n 3, 1) := by decide +kernel
theorem dL_law_275 : decode cL_law 275 = .ok (.iconst 1, 1) := by decide +kernel
theorem dL_law_276 : decode cL_law 276 = .ok (.iadd, 1) := by decide +kernel
theorem dL_law_277 : decode cL_law 277 = .ok (.iaload, 1) := by decide +kernel
theorem dL_law_278 : decode cL_law 278 = .ok (.aload_n 0, 1) := by decide +kernel
theorem dL_law_279 : decode cL_law 279 = .ok (.iload_n 3, 1) := by decide +kernel
theorem dL_law_280 : decode cL_law 280 = .ok (.iconst 2, 1) := by decide +kernel
theorem dL_law_281 : decode cL_law 281 = .ok (.iadd, 1) := by decide +kernel
theorem dL_law_282 : decode cL_law 282 = .ok (.iaload, 1) := by decide +kernel
theorem dL_law_283 : decode cL_law 283 = .ok (.invokevirtual 37, 3) := by decide +kernel
theorem dL_law_286 : decode cL_law 286 = .ok (.aload_n 2, 1) := by decide +kernel
theorem dL_law_287 : decode cL_law 287 = .ok (.aload_n 0, 1) := by decide +kernel
theorem dL_law_288 : decode cL_law 288 = .ok (.iload_n 3, 1) := by decide +kernel
theorem dL_law_289 : decode cL_law 289 = .ok (.iconst 1, 1) := by decide +kernel
theorem dL_law_290 : decode cL_law 290 = .ok (.iadd, 1) := by decide +kernel
theorem dL_law_291 : decode cL_law 291 = .ok (.iaload, 1) := by decide +kernel
theorem dL_law_292 : decode cL_law 292 = .ok (.aload_n 0, 1) := by decide +kernel
theorem dL_law_293 : decode cL_law 293 = .ok (.iload_n 3, 1) := by decide +kernel
theorem dL_law_294 : decode cL_law 294 = .ok (.iconst 2, 1) := by decide +kernel
theorem dL_law_295 : decode cL_law 295 = .ok (.iadd, 1) := by decide +kernel
theorem dL_law_296 : decode cL_law 296 = .ok (.iaload, 1) := by decide +kernel
theorem dL_law_297 : decode cL_law 297 = .ok (.invokevirtual 40, 3) := by decide +kernel
theorem dL_law_300 : decode cL_law 300 = .ok (.if_icmp .eq 336, 3) := by decide +kernel
theorem dL_law_303 : decode cL_law 303 = .ok (.iconst 0, 1) := by decide +kernel
theorem dL_law_304 : decode cL_law 304 = .ok (.ireturn, 1) := by decide +kernel
theorem dL_law_305 : decode cL_law 305 = .ok (.aload_n 1, 1) := by decide +kernel
theorem dL_law_306 : decode cL_law 306 = .ok (.aload_n 0, 1) := by decide +kernel
theorem dL_law_307 : decode cL_law 307 = .ok (.iload_n 3, 1) := by decide +kernel
theorem dL_law_308 : decode cL_law 308 = .ok (.iconst 1, 1) := by decide +kernel
theorem dL_law_309 : decode cL_law 309 = .ok (.iadd, 1) := by decide +kernel
theorem dL_law_310 : decode cL_law 310 = .ok (.iaload, 1) := by decide +kernel
theorem dL_law_311 : decode cL_law 311 = .ok (.invokevirtual 41, 3) := by decide +kernel
theorem dL_law_314 : decode cL_law 314 = .ok (.aload_n 2, 1) := by decide +kernel
theorem dL_law_315 : decode cL_law 315 = .ok (.aload_n 0, 1) := by decide +kernel
theorem dL_law_316 : decode cL_law 316 = .ok (.iload_n 3, 1) := by decide +kernel
theorem dL_law_317 : decode cL_law 317 = .ok (.iconst 1, 1) := by decide +kernel
theorem dL_law_318 : decode cL_law 318 = .ok (.iadd, 1) := by decide +kernel
theorem dL_law_319 : decode cL_law 319 = .ok (.iaload, 1) := by decide +kernel
theorem dL_law_320 : decode cL_law 320 = .ok (.invokevirtual 44, 3) := by decide +kernel
theorem dL_law_323 : decode cL_law 323 = .ok (.if_icmp .eq 313, 3) := by decide +kernel
theorem dL_law_326 : decode cL_law 326 = .ok (.iconst 0, 1) := by decide +kernel
theorem dL_law_327 : decode cL_law 327 = .ok (.ireturn, 1) := by decide +kernel
theorem dL_law_328 : decode cL_law 328 = .ok (.aload_n 1, 1) := by decide +kernel
theorem dL_law_329 : decode cL_law 329 = .ok (.aload_n 0, 1) := by decide +kernel
theorem dL_law_330 : decode cL_law 330 = .ok (.iload_n 3, 1) := by decide +kernel
theorem dL_law_331 : decode cL_law 331 = .ok (.iconst 1, 1) := by decide +kernel
theorem dL_law_332 : decode cL_law 332 = .ok (.iadd, 1) := by decide +kernel
theorem dL_law_333 : decode cL_law 333 = .ok (.iaload, 1) := by decide +kernel
theorem dL_law_334 : decode cL_law 334 = .ok (.invokevirtual 45, 3) := by decide +kernel
theorem dL_law_337 : decode cL_law 337 = .ok (.aload_n 2, 1) := by decide +kernel
theorem dL_law_338 : decode cL_law 338 = .ok (.aload_n 0, 1) := by decide +kernel
theorem dL_law_339 : decode cL_law 339 = .ok (.iload_n 3, 1) := by decide +kernel
theorem dL_law_340 : decode cL_law 340 = .ok (.iconst 1, 1) := by decide +kernel
theorem dL_law_341 : decode cL_law 341 = .ok (.iadd, 1) := by decide +kernel
theorem dL_law_342 : decode cL_law 342 = .ok (.iaload, 1) := by decide +kernel
theorem dL_law_343 : decode cL_law 343 = .ok (.invokevirtual 48, 3) := by decide +kernel
theorem dL_law_346 : decode cL_law 346 = .ok (.if_icmp .eq 290, 3) := by decide +kernel
theorem dL_law_349 : decode cL_law 349 = .ok (.iconst 0, 1) := by decide +kernel
theorem dL_law_350 : decode cL_law 350 = .ok (.ireturn, 1) := by decide +kernel
theorem dL_law_351 : decode cL_law 351 = .ok (.aload_n 1, 1) := by decide +kernel
theorem dL_law_352 : decode cL_law 352 = .ok (.aload_n 0, 1) := by decide +kernel
theorem dL_law_353 : decode cL_law 353 = .ok (.iload_n 3, 1) := by decide +kernel
theorem dL_law_354 : decode cL_law 354 = .ok (.iconst 1, 1) := by decide +kernel
theorem dL_law_355 : decode cL_law 355 = .ok (.iadd, 1) := by decide +kernel
theorem dL_law_356 : decode cL_law 356 = .ok (.iaload, 1) := by decide +kernel
theorem dL_law_357 : decode cL_law 357 = .ok (.invokevirtual 49, 3) := by decide +kernel
theorem dL_law_360 : decode cL_law 360 = .ok (.aload_n 2, 1) := by decide +kernel
theorem dL_law_361 : decode cL_law 361 = .ok (.aload_n 0, 1) := by decide +kernel
theorem dL_law_362 : decode cL_law 362 = .ok (.iload_n 3, 1) := by decide +kernel
theorem dL_law_363 : decode cL_law 363 = .ok (.iconst 1, 1) := by decide +kernel
theorem dL_law_364 : decode cL_law 364 = .ok (.iadd, 1) := by decide +kernel
theorem dL_law_365 : decode cL_law 365 = .ok (.iaload, 1) := by decide +kernel
theorem dL_law_366 : decode cL_law 366 = .ok (.invokevirtual 52, 3) := by decide +kernel
theorem dL_law_369 : decode cL_law 369 = .ok (.if_icmp .eq 267, 3) := by decide +kernel
theorem dL_law_372 : decode cL_law 372 = .ok (.iconst 0, 1) := by decide +kernel
theorem dL_law_373 : decode cL_law 373 = .ok (.ireturn, 1) := by decide +kernel
theorem dL_law_374 : decode cL_law 374 = .ok (.aload_n 1, 1) := by decide +kernel
theorem dL_law_375 : decode cL_law 375 = .ok (.aload_n 0, 1) := by decide +kernel
theorem dL_law_376 : decode cL_law 376 = .ok (.iload_n 3, 1) := by decide +kernel
theorem dL_law_377 : decode cL_law 377 = .ok (.iconst 1, 1) := by decide +kernel
theorem dL_law_378 : decode cL_law 378 = .ok (.iadd, 1) := by decide +kernel
theorem dL_law_379 : decode cL_law 379 = .ok (.iaload, 1) := by decide +kernel
theorem dL_law_380 : decode cL_law 380 = .ok (.aload_n 0, 1) := by decide +kernel
theorem dL_law_381 : decode cL_law 381 = .ok (.iload_n 3, 1) := by decide +kernel
theorem dL_law_382 : decode cL_law 382 = .ok (.iconst 2, 1) := by decide +kernel
theorem dL_law_383 : decode cL_law 383 = .ok (.iadd, 1) := by decide +kernel
theorem dL_law_384 : decode cL_law 384 = .ok (.iaload, 1) := by decide +kernel
theorem dL_law_385 : decode cL_law 385 = .ok (.invokevirtual 53, 3) := by decide +kernel
theorem dL_law_388 : decode cL_law 388 = .ok (.aload_n 2, 1) := by decide +kernel
theorem dL_law_389 : decode cL_law 389 = .ok (.aload_n 0, 1) := by decide +kernel
theorem dL_law_390 : decode cL_law 390 = .ok (.iload_n 3, 1) := by decide +kernel
theorem dL_law_391 : decode cL_law 391 = .ok (.iconst 1, 1) := by decide +kernel
theorem dL_law_392 : decode cL_law 392 = .ok (.iadd, 1) := by decide +kernel
theorem dL_law_393 : decode cL_law 393 = .ok (.iaload, 1) := by decide +kernel
theorem dL_law_394 : decode cL_law 394 = .ok (.aload_n 0, 1) := by decide +kernel
theorem dL_law_395 : decode cL_law 395 = .ok (.iload_n 3, 1) := by decide +kernel
theorem dL_law_396 : decode cL_law 396 = .ok (.iconst 2, 1) := by decide +kernel
theorem dL_law_397 : decode cL_law 397 = .ok (.iadd, 1) := by decide +kernel
theorem dL_law_398 : decode cL_law 398 = .ok (.iaload, 1) := by decide +kernel
theorem dL_law_399 : decode cL_law 399 = .ok (.invokevirtual 56, 3) := by decide +kernel
theorem dL_law_402 : decode cL_law 402 = .ok (.if_icmp .eq 234, 3) := by decide +kernel
theorem dL_law_405 : decode cL_law 405 = .ok (.iconst 0, 1) := by decide +kernel
theorem dL_law_406 : decode cL_law 406 = .ok (.ireturn, 1) := by decide +kernel
theorem dL_law_407 : decode cL_law 407 = .ok (.aload_n 1, 1) := by decide +kernel
theorem dL_law_408 : decode cL_law 408 = .ok (.aload_n 0, 1) := by decide +kernel
theorem dL_law_409 : decode cL_law 409 = .ok (.iload_n 3, 1) := by decide +kernel
theorem dL_law_410 : decode cL_law 410 = .ok (.iconst 1, 1) := by decide +kernel
theorem dL_law_411 : decode cL_law 411 = .ok (.iadd, 1) := by decide +kernel
theorem dL_law_412 : decode cL_law 412 = .ok (.iaload, 1) := by decide +kernel
theorem dL_law_413 : decode cL_law 413 = .ok (.aload_n 0, 1) := by decide +kernel
theorem dL_law_414 : decode cL_law 414 = .ok (.iload_n 3, 1) := by decide +kernel
theorem dL_law_415 : decode cL_law 415 = .ok (.iconst 2, 1) := by decide +kernel
theorem dL_law_416 : decode cL_law 416 = .ok (.iadd, 1) := by decide +kernel
theorem dL_law_417 : decode cL_law 417 = .ok (.iaload, 1) := by decide +kernel
theorem dL_law_418 : decode cL_law 418 = .ok (.invokevirtual 57, 3) := by decide +kernel
theorem dL_law_421 : decode cL_law 421 = .ok (.aload_n 2, 1) := by decide +kernel
theorem dL_law_422 : decode cL_law 422 = .ok (.aload_n 0, 1) := by decide +kernel
theorem dL_law_423 : decode cL_law 423 = .ok (.iload_n 3, 1) := by decide +kernel
theorem dL_law_424 : decode cL_law 424 = .ok (.iconst 1, 1) := by decide +kernel
theorem dL_law_425 : decode cL_law 425 = .ok (.iadd, 1) := by decide +kernel
theorem dL_law_426 : decode cL_law 426 = .ok (.iaload, 1) := by decide +kernel
theorem dL_law_427 : decode cL_law 427 = .ok (.aload_n 0, 1) := by decide +kernel
theorem dL_law_428 : decode cL_law 428 = .ok (.iload_n 3, 1) := by decide +kernel
theorem dL_law_429 : decode cL_law 429 = .ok (.iconst 2, 1) := by decide +kernel
theorem dL_law_430 : decode cL_law 430 = .ok (.iadd, 1) := by decide +kernel
theorem dL_law_431 : decode cL_law 431 = .ok (.iaload, 1) := by decide +kernel
theorem dL_law_432 : decode cL_law 432 = .ok (.invokevirtual 60, 3) := by decide +kernel
theorem dL_law_435 : decode cL_law 435 = .ok (.if_icmp .eq 201, 3) := by decide +kernel
theorem dL_law_438 : decode cL_law 438 = .ok (.iconst 0, 1) := by decide +kernel
theorem dL_law_439 : decode cL_law 439 = .ok (.ireturn, 1) := by decide +kernel
theorem dL_law_440 : decode cL_law 440 = .ok (.aload_n 1, 1) := by decide +kernel
theorem dL_law_441 : decode cL_law 441 = .ok (.aload_n 0, 1) := by decide +kernel
theorem dL_law_442 : decode cL_law 442 = .ok (.iload_n 3, 1) := by decide +kernel
theorem dL_law_443 : decode cL_law 443 = .ok (.iconst 1, 1) := by decide +kernel
theorem dL_law_444 : decode cL_law 444 = .ok (.iadd, 1) := by decide +kernel
theorem dL_law_445 : decode cL_law 445 = .ok (.iaload, 1) := by decide +kernel
theorem dL_law_446 : decode cL_law 446 = .ok (.aload_n 0, 1) := by decide +kernel
theorem dL_law_447 : decode cL_law 447 = .ok (.iload_n 3, 1) := by decide +kernel
theorem dL_law_448 : decode cL_law 448 = .ok (.iconst 2, 1) := by decide +kernel
theorem dL_law_449 : decode cL_law 449 = .ok (.iadd, 1) := by decide +kernel
theorem dL_law_450 : decode cL_law 450 = .ok (.iaload, 1) := by decide +kernel
theorem dL_law_451 : decode cL_law 451 = .ok (.aload_n 0, 1) := by decide +kernel
theorem dL_law_452 : decode cL_law 452 = .ok (.iload_n 3, 1) := by decide +kernel
theorem dL_law_453 : decode cL_law 453 = .ok (.iconst 3, 1) := by decide +kernel
theorem dL_law_454 : decode cL_law 454 = .ok (.iadd, 1) := by decide +kernel
theorem dL_law_455 : decode cL_law 455 = .ok (.iaload, 1) := by decide +kernel
theorem dL_law_456 : decode cL_law 456 = .ok (.ifCond .eq 7, 3) := by decide +kernel
theorem dL_law_459 : decode cL_law 459 = .ok (.iconst 1, 1) := by decide +kernel
theorem dL_law_460 : decode cL_law 460 = .ok (.goto 4, 3) := by decide +kernel
theorem dL_law_463 : decode cL_law 463 = .ok (.iconst 0, 1) := by decide +kernel
theorem dL_law_464 : decode cL_law 464 = .ok (.invokevirtual 61, 3) := by decide +kernel
theorem dL_law_467 : decode cL_law 467 = .ok (.aload_n 2, 1) := by decide +kernel
theorem dL_law_468 : decode cL_law 468 = .ok (.aload_n 0, 1) := by decide +kernel
theorem dL_law_469 : decode cL_law 469 = .ok (.iload_n 3, 1) := by decide +kernel
theorem dL_law_470 : decode cL_law 470 = .ok (.iconst 1, 1) := by decide +kernel
theorem dL_law_471 : decode cL_law 471 = .ok (.iadd, 1) := by decide +kernel
theorem dL_law_472 : decode cL_law 472 = .ok (.iaload, 1) := by decide +kernel
theorem dL_law_473 : decode cL_law 473 = .ok (.aload_n 0, 1) := by decide +kernel
theorem dL_law_474 : decode cL_law 474 = .ok (.iload_n 3, 1) := by decide +kernel
theorem dL_law_475 : decode cL_law 475 = .ok (.iconst 2, 1) := by decide +kernel
theorem dL_law_476 : decode cL_law 476 = .ok (.iadd, 1) := by decide +kernel
theorem dL_law_477 : decode cL_law 477 = .ok (.iaload, 1) := by decide +kernel
theorem dL_law_478 : decode cL_law 478 = .ok (.aload_n 0, 1) := by decide +kernel
theorem dL_law_479 : decode cL_law 479 = .ok (.iload_n 3, 1) := by decide +kernel
theorem dL_law_480 : decode cL_law 480 = .ok (.iconst 3, 1) := by decide +kernel
theorem dL_law_481 : decode cL_law 481 = .ok (.iadd, 1) := by decide +kernel
theorem dL_law_482 : decode cL_law 482 = .ok (.iaload, 1) := by decide +kernel
theorem dL_law_483 : decode cL_law 483 = .ok (.ifCond .eq 7, 3) := by decide +kernel
theorem dL_law_486 : decode cL_law 486 = .ok (.iconst 1, 1) := by decide +kernel
theorem dL_law_487 : decode cL_law 487 = .ok (.goto 4, 3) := by decide +kernel
theorem dL_law_490 : decode cL_law 490 = .ok (.iconst 0, 1) := by decide +kernel
theorem dL_law_491 : decode cL_law 491 = .ok (.invokevirtual 65, 3) := by decide +kernel
theorem dL_law_494 : decode cL_law 494 = .ok (.if_icmp .eq 142, 3) := by decide +kernel
theorem dL_law_497 : decode cL_law 497 = .ok (.iconst 0, 1) := by decide +kernel
theorem dL_law_498 : decode cL_law 498 = .ok (.ireturn, 1) := by decide +kernel
theorem dL_law_499 : decode cL_law 499 = .ok (.aload_n 1, 1) := by decide +kernel
theorem dL_law_500 : decode cL_law 500 = .ok (.aload_n 0, 1) := by decide +kernel
theorem dL_law_501 : decode cL_law 501 = .ok (.iload_n 3, 1) := by decide +kernel
theorem dL_law_502 : decode cL_law 502 = .ok (.iconst 1, 1) := by decide +kernel
theorem dL_law_503 : decode cL_law 503 = .ok (.iadd, 1) := by decide +kernel
theorem dL_law_504 : decode cL_law 504 = .ok (.iaload, 1) := by decide +kernel
theorem dL_law_505 : decode cL_law 505 = .ok (.invokevirtual 66, 3) := by decide +kernel
theorem dL_law_508 : decode cL_law 508 = .ok (.aload_n 2, 1) := by decide +kernel
theorem dL_law_509 : decode cL_law 509 = .ok (.aload_n 0, 1) := by decide +kernel
theorem dL_law_510 : decode cL_law 510 = .ok (.iload_n 3, 1) := by decide +kernel
theorem dL_law_511 : decode cL_law 511 = .ok (.iconst 1, 1) := by decide +kernel
theorem dL_law_512 : decode cL_law 512 = .ok (.iadd, 1) := by decide +kernel
theorem dL_law_513 : decode cL_law 513 = .ok (.iaload, 1) := by decide +kernel
theorem dL_law_514 : decode cL_law 514 = .ok (.invokevirtual 69, 3) := by decide +kernel
theorem dL_law_517 : decode cL_law 517 = .ok (.if_icmp .eq 119, 3) := by decide +kernel
theorem dL_law_520 : decode cL_law 520 = .ok (.iconst 0, 1) := by decide +kernel
theorem dL_law_521 : decode cL_law 521 = .ok (.ireturn, 1) := by decide +kernel
theorem dL_law_522 : decode cL_law 522 = .ok (.aload_n 1, 1) := by decide +kernel
theorem dL_law_523 : decode cL_law 523 = .ok (.invokevirtual 70, 3) := by decide +kernel
theorem dL_law_526 : decode cL_law 526 = .ok (.aload_n 2, 1) := by decide +kernel
theorem dL_law_527 : decode cL_law 527 = .ok (.invokevirtual 74, 3) := by decide +kernel
theorem dL_law_530 : decode cL_law 530 = .ok (.if_icmp .eq 106, 3) := by decide +kernel
theorem dL_law_533 : decode cL_law 533 = .ok (.iconst 0, 1) := by decide +kernel
theorem dL_law_534 : decode cL_law 534 = .ok (.ireturn, 1) := by decide +kernel
theorem dL_law_535 : decode cL_law 535 = .ok (.aload_n 1, 1) := by decide +kernel
theorem dL_law_536 : decode cL_law 536 = .ok (.aload_n 0, 1) := by decide +kernel
theorem dL_law_537 : decode cL_law 537 = .ok (.iload_n 3, 1) := by decide +kernel
theorem dL_law_538 : decode cL_law 538 = .ok (.iconst 1, 1) := by decide +kernel
theorem dL_law_539 : decode cL_law 539 = .ok (.iadd, 1) := by decide +kernel
theorem dL_law_540 : decode cL_law 540 = .ok (.iaload, 1) := by decide +kernel
theorem dL_law_541 : decode cL_law 541 = .ok (.invokevirtual 75, 3) := by decide +kernel
theorem dL_law_544 : decode cL_law 544 = .ok (.aload_n 2, 1) := by decide +kernel
theorem dL_law_545 : decode cL_law 545 = .ok (.aload_n 0, 1) := by decide +kernel
theorem dL_law_546 : decode cL_law 546 = .ok (.iload_n 3, 1) := by decide +kernel
theorem dL_law_547 : decode cL_law 547 = .ok (.iconst 1, 1) := by decide +kernel
theorem dL_law_548 : decode cL_law 548 = .ok (.iadd, 1) := by decide +kernel
theorem dL_law_549 : decode cL_law 549 = .ok (.iaload, 1) := by decide +kernel
theorem dL_law_550 : decode cL_law 550 = .ok (.invokevirtual 78, 3) := by decide +kernel
theorem dL_law_553 : decode cL_law 553 = .ok (.if_icmp .eq 83, 3) := by decide +kernel
theorem dL_law_556 : decode cL_law 556 = .ok (.iconst 0, 1) := by decide +kernel
theorem dL_law_557 : decode cL_law 557 = .ok (.ireturn, 1) := by decide +kernel
theorem dL_law_558 : decode cL_law 558 = .ok (.aload_n 1, 1) := by decide +kernel
theorem dL_law_559 : decode cL_law 559 = .ok (.aload_n 0, 1) := by decide +kernel
theorem dL_law_560 : decode cL_law 560 = .ok (.iload_n 3, 1) := by decide +kernel
theorem dL_law_561 : decode cL_law 561 = .ok (.iconst 1, 1) := by decide +kernel
theorem dL_law_562 : decode cL_law 562 = .ok (.iadd, 1) := by decide +kernel
theorem dL_law_563 : decode cL_law 563 = .ok (.iaload, 1) := by decide +kernel
theorem dL_law_564 : decode cL_law 564 = .ok (.aload_n 0, 1) := by decide +kernel
theorem dL_law_565 : decode cL_law 565 = .ok (.iload_n 3, 1) := by decide +kernel
theorem dL_law_566 : decode cL_law 566 = .ok (.iconst 2, 1) := by decide +kernel
theorem dL_law_567 : decode cL_law 567 = .ok (.iadd, 1) := by decide +kernel
theorem dL_law_568 : decode cL_law 568 = .ok (.iaload, 1) := by decide +kernel
theorem dL_law_569 : decode cL_law 569 = .ok (.invokevirtual 79, 3) := by decide +kernel
theorem dL_law_572 : decode cL_law 572 = .ok (.aload_n 2, 1) := by decide +kernel
theorem dL_law_573 : decode cL_law 573 = .ok (.aload_n 0, 1) := by decide +kernel
theorem dL_law_574 : decode cL_law 574 = .ok (.iload_n 3, 1) := by decide +kernel
theorem dL_law_575 : decode cL_law 575 = .ok (.iconst 1, 1) := by decide +kernel
theorem dL_law_576 : decode cL_law 576 = .ok (.iadd, 1) := by decide +kernel
theorem dL_law_577 : decode cL_law 577 = .ok (.iaload, 1) := by decide +kernel
theorem dL_law_578 : decode cL_law 578 = .ok (.aload_n 0, 1) := by decide +kernel
theorem dL_law_579 : decode cL_law 579 = .ok (.iload_n 3, 1) := by decide +kernel
theorem dL_law_580 : decode cL_law 580 = .ok (.iconst 2, 1) := by decide +kernel
theorem dL_law_581 : decode cL_law 581 = .ok (.iadd, 1) := by decide +kernel
theorem dL_law_582 : decode cL_law 582 = .ok (.iaload, 1) := by decide +kernel
theorem dL_law_583 : decode cL_law 583 = .ok (.invokevirtual 82, 3) := by decide +kernel
theorem dL_law_586 : decode cL_law 586 = .ok (.lcmp, 1) := by decide +kernel
theorem dL_law_587 : decode cL_law 587 = .ok (.ifCond .eq 49, 3) := by decide +kernel
theorem dL_law_590 : decode cL_law 590 = .ok (.iconst 0, 1) := by decide +kernel
theorem dL_law_591 : decode cL_law 591 = .ok (.ireturn, 1) := by decide +kernel
theorem dL_law_592 : decode cL_law 592 = .ok (.aload_n 1, 1) := by decide +kernel
theorem dL_law_593 : decode cL_law 593 = .ok (.aload_n 0, 1) := by decide +kernel
theorem dL_law_594 : decode cL_law 594 = .ok (.iload_n 3, 1) := by decide +kernel
theorem dL_law_595 : decode cL_law 595 = .ok (.iconst 1, 1) := by decide +kernel
theorem dL_law_596 : decode cL_law 596 = .ok (.iadd, 1) := by decide +kernel
theorem dL_law_597 : decode cL_law 597 = .ok (.iaload, 1) := by decide +kernel
theorem dL_law_598 : decode cL_law 598 = .ok (.aload_n 0, 1) := by decide +kernel
theorem dL_law_599 : decode cL_law 599 = .ok (.iload_n 3, 1) := by decide +kernel
theorem dL_law_600 : decode cL_law 600 = .ok (.iconst 2, 1) := by decide +kernel
theorem dL_law_601 : decode cL_law 601 = .ok (.iadd, 1) := by decide +kernel
theorem dL_law_602 : decode cL_law 602 = .ok (.iaload, 1) := by decide +kernel
theorem dL_law_603 : decode cL_law 603 = .ok (.aload_n 0, 1) := by decide +kernel
theorem dL_law_604 : decode cL_law 604 = .ok (.iload_n 3, 1) := by decide +kernel
theorem dL_law_605 : decode cL_law 605 = .ok (.iconst 3, 1) := by decide +kernel
theorem dL_law_606 : decode cL_law 606 = .ok (.iadd, 1) := by decide +kernel
theorem dL_law_607 : decode cL_law 607 = .ok (.iaload, 1) := by decide +kernel
theorem dL_law_608 : decode cL_law 608 = .ok (.invokevirtual 83, 3) := by decide +kernel
theorem dL_law_611 : decode cL_law 611 = .ok (.aload_n 2, 1) := by decide +kernel
theorem dL_law_612 : decode cL_law 612 = .ok (.aload_n 0, 1) := by decide +kernel
theorem dL_law_613 : decode cL_law 613 = .ok (.iload_n 3, 1) := by decide +kernel
theorem dL_law_614 : decode cL_law 614 = .ok (.iconst 1, 1) := by decide +kernel
theorem dL_law_615 : decode cL_law 615 = .ok (.iadd, 1) := by decide +kernel
theorem dL_law_616 : decode cL_law 616 = .ok (.iaload, 1) := by decide +kernel
theorem dL_law_617 : decode cL_law 617 = .ok (.aload_n 0, 1) := by decide +kernel
theorem dL_law_618 : decode cL_law 618 = .ok (.iload_n 3, 1) := by decide +kernel
theorem dL_law_619 : decode cL_law 619 = .ok (.iconst 2, 1) := by decide +kernel
theorem dL_law_620 : decode cL_law 620 = .ok (.iadd, 1) := by decide +kernel
theorem dL_law_621 : decode cL_law 621 = .ok (.iaload, 1) := by decide +kernel
theorem dL_law_622 : decode cL_law 622 = .ok (.aload_n 0, 1) := by decide +kernel
theorem dL_law_623 : decode cL_law 623 = .ok (.iload_n 3, 1) := by decide +kernel
theorem dL_law_624 : decode cL_law 624 = .ok (.iconst 3, 1) := by decide +kernel
theorem dL_law_625 : decode cL_law 625 = .ok (.iadd, 1) := by decide +kernel
theorem dL_law_626 : decode cL_law 626 = .ok (.iaload, 1) := by decide +kernel
theorem dL_law_627 : decode cL_law 627 = .ok (.invokevirtual 87, 3) := by decide +kernel
theorem dL_law_630 : decode cL_law 630 = .ok (.lcmp, 1) := by decide +kernel
theorem dL_law_631 : decode cL_law 631 = .ok (.ifCond .eq 5, 3) := by decide +kernel
theorem dL_law_634 : decode cL_law 634 = .ok (.iconst 0, 1) := by decide +kernel
theorem dL_law_635 : decode cL_law 635 = .ok (.ireturn, 1) := by decide +kernel
theorem dL_law_636 : decode cL_law 636 = .ok (.iinc 3 4, 3) := by decide +kernel
theorem dL_law_639 : decode cL_law 639 = .ok (.goto (-621), 3) := by decide +kernel
theorem dL_law_642 : decode cL_law 642 = .ok (.iconst 1, 1) := by decide +kernel
theorem dL_law_643 : decode cL_law 643 = .ok (.ireturn, 1) := by decide +kernel
abbrev vwCl : List vw_C := [(RX0, TX0, 4), (RX1, TX1, 4), (RX2, TX2, 2), (RX3, TX3, 2), (RX4, TX4, 1), (RX5, TX5, 2), (RX6, TX6, 8), (RX7, TX7, 7), (RX8, TX8, 16)]
