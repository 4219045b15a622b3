theorem dX8_kind_25 : decode cX8_kind 25 = .ok (.istore 5, 2) := by decide +kernel
theorem dX8_kind_27 : decode cX8_kind 27 = .ok (.iload 5, 2) := by decide +kernel
theorem dX8_kind_29 : decode cX8_kind 29 = .ok (.iconst 4, 1) := by decide +kernel
theorem dX8_kind_30 : decode cX8_kind 30 = .ok (.if_icmp .ge 74, 3) := by decide +kernel
theorem dX8_kind_33 : decode cX8_kind 33 = .ok (.aload_n 0, 1) := by decide +kernel
theorem dX8_kind_34 : decode cX8_kind 34 = .ok (.invokevirtual 188, 3) := by decide +kernel
theorem dX8_kind_37 : decode cX8_kind 37 = .ok (.aload_n 0, 1) := by decide +kernel
theorem dX8_kind_38 : decode cX8_kind 38 = .ok (.iload_n 1, 1) := by decide +kernel
theorem dX8_kind_39 : decode cX8_kind 39 = .ok (.iconst 0, 1) := by decide +kernel
theorem dX8_kind_40 : decode cX8_kind 40 = .ok (.iload 5, 2) := by decide +kernel
theorem dX8_kind_42 : decode cX8_kind 42 = .ok (.invokevirtual 164, 3) := by decide +kernel
theorem dX8_kind_45 : decode cX8_kind 45 = .ok (.aload_n 0, 1) := by decide +kernel
theorem dX8_kind_46 : decode cX8_kind 46 = .ok (.iload_n 1, 1) := by decide +kernel
theorem dX8_kind_47 : decode cX8_kind 47 = .ok (.invokevirtual 236, 3) := by decide +kernel
theorem dX8_kind_50 : decode cX8_kind 50 = .ok (.istore 6, 2) := by decide +kernel
theorem dX8_kind_52 : decode cX8_kind 52 = .ok (.iload 6, 2) := by decide +kernel
theorem dX8_kind_54 : decode cX8_kind 54 = .ok (.bipush (-4), 2) := by decide +kernel
theorem dX8_kind_56 : decode cX8_kind 56 = .ok (.if_icmp .eq 13, 3) := by decide +kernel
theorem dX8_kind_59 : decode cX8_kind 59 = .ok (.iload 6, 2) := by decide +kernel
theorem dX8_kind_61 : decode cX8_kind 61 = .ok (.iload_n 3, 1) := by decide +kernel
theorem dX8_kind_62 : decode cX8_kind 62 = .ok (.if_icmp .ge 7, 3) := by decide +kernel
theorem dX8_kind_65 : decode cX8_kind 65 = .ok (.iconst 1, 1) := by decide +kernel
theorem dX8_kind_66 : decode cX8_kind 66 = .ok (.goto 4, 3) := by decide +kernel
theorem dX8_kind_69 : decode cX8_kind 69 = .ok (.iconst 0, 1) := by decide +kernel
theorem dX8_kind_70 : decode cX8_kind 70 = .ok (.istore 7, 2) := by decide +kernel
theorem dX8_kind_72 : decode cX8_kind 72 = .ok (.iload 7, 2) := by decide +kernel
theorem dX8_kind_74 : decode cX8_kind 74 = .ok (.ifCond .eq 8, 3) := by decide +kernel
theorem dX8_kind_77 : decode cX8_kind 77 = .ok (.iload 5, 2) := by decide +kernel
theorem dX8_kind_79 : decode cX8_kind 79 = .ok (.goto 5, 3) := by decide +kernel
theorem dX8_kind_82 : decode cX8_kind 82 = .ok (.iload 4, 2) := by decide +kernel
theorem dX8_kind_84 : decode cX8_kind 84 = .ok (.istore 4, 2) := by decide +kernel
theorem dX8_kind_86 : decode cX8_kind 86 = .ok (.iload 7, 2) := by decide +kernel
theorem dX8_kind_88 : decode cX8_kind 88 = .ok (.ifCond .eq 8, 3) := by decide +kernel
theorem dX8_kind_91 : decode cX8_kind 91 = .ok (.iload 6, 2) := by decide +kernel
theorem dX8_kind_93 : decode cX8_kind 93 = .ok (.goto 4, 3) := by decide +kernel
theorem dX8_kind_96 : decode cX8_kind 96 = .ok (.iload_n 3, 1) := by decide +kernel
theorem dX8_kind_97 : decode cX8_kind 97 = .ok (.istore_n 3, 1) := by decide +kernel
theorem dX8_kind_98 : decode cX8_kind 98 = .ok (.iinc 5 1, 3) := by decide +kernel
theorem dX8_kind_101 : decode cX8_kind 101 = .ok (.goto (-74), 3) := by decide +kernel
theorem dX8_kind_104 : decode cX8_kind 104 = .ok (.iload 4, 2) := by decide +kernel
theorem dX8_kind_106 : decode cX8_kind 106 = .ok (.bipush (-4), 2) := by decide +kernel
theorem dX8_kind_108 : decode cX8_kind 108 = .ok (.if_icmp .ne 8, 3) := by decide +kernel
theorem dX8_kind_111 : decode cX8_kind 111 = .ok (.bipush (-4), 2) := by decide +kernel
theorem dX8_kind_113 : decode cX8_kind 113 = .ok (.goto 13, 3) := by decide +kernel
theorem dX8_kind_116 : decode cX8_kind 116 = .ok (.iload_n 2, 1) := by decide +kernel
theorem dX8_kind_117 : decode cX8_kind 117 = .ok (.ifCond .ne 8, 3) := by decide +kernel
theorem dX8_kind_120 : decode cX8_kind 120 = .ok (.iload 4, 2) := by decide +kernel
theorem dX8_kind_122 : decode cX8_kind 122 = .ok (.goto 4, 3) := by decide +kernel
theorem dX8_kind_125 : decode cX8_kind 125 = .ok (.iload_n 3, 1) := by decide +kernel
theorem dX8_kind_126 : decode cX8_kind 126 = .ok (.ireturn, 1) := by decide +kernel
set_option maxRecDepth 20000 in
theorem ggX8_daysIf_X8_starts : GoodIn wsX8_daysIf wsX8_starts := goodIn_r _ [6, 1, 7, 49, 50, 51, 52, 53, 54, 55, 56, 57, 58, 59, 60, 61, 62, 63, 64, 65, 66, 67, 68, 69, 70, 71, 72, 73, 74, 75, 76, 77, 78] (by decide +kernel) (by decide +kernel)
set_option maxRecDepth 20000 in
theorem gX8_daysIf_X8_starts : GoodIn wsX8_daysIf (wsV RX8 188 RX8 yX8_starts wsX8_starts) := goodIn_app (goodIn_of _ (by decide +kernel)) ggX8_daysIf_X8_starts
set_option maxRecDepth 20000 in
theorem ggX8_daysIf_X8_daysTo : GoodIn wsX8_daysIf wsX8_daysTo := goodIn_r _ [11, 12, 13, 14, 5, 15, 16, 17, 18, 19, 20, 1, 21, 22, 23, 24, 25, 26, 27, 28, 29, 30, 31, 32, 33, 34, 35, 36, 37, 38, 39, 40, 41, 42, 43, 44, 45, 46, 47, 48, 49, 50, 51, 52, 53, 54, 55, 56, 57, 58, 59, 60, 61, 62, 63, 64, 65, 66, 67, 68, 69, 70, 71, 72, 73, 74, 75, 76, 77, 78] (by decide +kernel) (by decide +kernel)
set_option maxRecDepth 20000 in
theorem gX8_daysIf_X8_daysTo : GoodIn wsX8_daysIf (wsV RX8 236 RX8 yX8_daysTo wsX8_daysTo) := goodIn_app (goodIn_of _ (by decide +kernel)) ggX8_daysIf_X8_daysTo
theorem dX8_daysIf_0 : decode cX8_daysIf 0 = .ok (.aload_n 0, 1) := by decide +kernel
theorem dX8_daysIf_1 : decode cX8_daysIf 1 = .ok (.invokevirtual 188, 3) := by decide +kernel
theorem dX8_daysIf_4 : decode cX8_daysIf 4 = .ok (.aload_n 0, 1) := by decide +kernel
theorem dX8_daysIf_5 : decode cX8_daysIf 5 = .ok (.getfield 13, 3) := by decide +kernel
theorem dX8_daysIf_8 : decode cX8_daysIf 8 = .ok (.bipush 41, 2) := by decide +kernel
theorem dX8_daysIf_10 : decode cX8_daysIf 10 = .ok (.iload_n 2, 1) := by decide +kernel
theorem dX8_daysIf_11 : decode cX8_daysIf 11 = .ok (.iastore, 1) := by decide +kernel
theorem dX8_daysIf_12 : decode cX8_daysIf 12 = .ok (.aload_n 0, 1) := by decide +kernel
theorem dX8_daysIf_13 : decode cX8_daysIf 13 = .ok (.iload_n 1, 1) := by decide +kernel
theorem dX8_daysIf_14 : decode cX8_daysIf 14 = .ok (.invokevirtual 236, 3) := by decide +kernel
theorem dX8_daysIf_17 : decode cX8_daysIf 17 = .ok (.ireturn, 1) := by decide +kernel
set_option maxRecDepth 20000 in
theorem ggX8_late_X8_isOne : GoodIn wsX8_late wsX8_isOne := goodIn_r _ [6, 7, 8, 9, 5, 10, 61, 62, 63, 64, 65, 66, 67, 68, 69, 70, 71, 72, 73, 74, 75, 76, 77, 78, 79, 80, 81, 82, 83, 84, 85, 86, 87, 88, 89, 90] (by decide +kernel) (by decide +kernel)
set_option maxRecDepth 20000 in
theorem gX8_late_X8_isOne : GoodIn wsX8_late (wsV RX8 145 RX8 yX8_isOne wsX8_isOne) := goodIn_app (goodIn_of _ (by decide +kernel)) ggX8_late_X8_isOne
set_option maxRecDepth 20000 in
theorem ggX8_late_X8_in : GoodIn wsX8_late wsX8_in := goodIn_r _ [10] (by decide +kernel) (by decide +kernel)
set_option maxRecDepth 20000 in
theorem gX8_late_X8_in : GoodIn wsX8_late (va_wsS RX8 72 yX8_in wsX8_in) := goodIn_app (goodIn_of _ (by decide +kernel)) ggX8_late_X8_in
set_option maxRecDepth 20000 in
theorem ggX8_late_X8_daysIf : GoodIn wsX8_late wsX8_daysIf := goodIn_r _ [14, 15, 16, 17, 18, 5, 19, 20, 21, 22, 23, 24, 25, 26, 27, 28, 7, 29, 30, 31, 32, 33, 34, 35, 36, 37, 38, 39, 40, 41, 42, 43, 44, 45, 46, 47, 48, 49, 50, 51, 52, 53, 54, 55, 56, 57, 58, 59, 60, 61, 62, 63, 64, 65, 66, 67, 68, 69, 70, 71, 72, 73, 74, 75, 76, 77, 78, 79, 80, 81, 82, 83, 84, 85, 86, 87, 88, 89, 90] (by decide +kernel) (by decide +kernel)
set_option maxRecDepth 20000 in
theorem gX8_late_X8_daysIf : GoodIn wsX8_late (wsV RX8 264 RX8 yX8_daysIf wsX8_daysIf) := goodIn_app (goodIn_of _ (by decide +kernel)) ggX8_late_X8_daysIf
theorem dX8_late_0 : decode cX8_late 0 = .ok (.aload_n 0, 1) := by decide +kernel
theorem dX8_late_1 : decode cX8_late 1 = .ok (.iload_n 1, 1) := by decide +kernel
theorem dX8_late_2 : decode cX8_late 2 = .ok (.invokevirtual 145, 3) := by decide +kernel
theorem dX8_late_5 : decode cX8_late 5 = .ok (.ifCond .eq 15, 3) := by decide +kernel
theorem dX8_late_8 : decode cX8_late 8 = .ok (.iload_n 2, 1) := by decide +kernel
theorem dX8_late_9 : decode cX8_late 9 = .ok (.i2l, 1) := by decide +kernel
theorem dX8_late_10 : decode cX8_late 10 = .ok (.lconst 0, 1) := by decide +kernel
theorem dX8_late_11 : decode cX8_late 11 = .ok (.ldc2_w 211, 3) := by decide +kernel
theorem dX8_late_14 : decode cX8_late 14 = .ok (.invokestatic 72, 3) := by decide +kernel
theorem dX8_late_17 : decode cX8_late 17 = .ok (.ifCond .ne 5, 3) := by decide +kernel
theorem dX8_late_20 : decode cX8_late 20 = .ok (.iconst (-1), 1) := by decide +kernel
theorem dX8_late_21 : decode cX8_late 21 = .ok (.ireturn, 1) := by decide +kernel
theorem dX8_late_22 : decode cX8_late 22 = .ok (.aload_n 0, 1) := by decide +kernel
theorem dX8_late_23 : decode cX8_late 23 = .ok (.iload_n 1, 1) := by decide +kernel
theorem dX8_late_24 : decode cX8_late 24 = .ok (.iconst 0, 1) := by decide +kernel
theorem dX8_late_25 : decode cX8_late 25 = .ok (.invokevirtual 264, 3) := by decide +kernel
theorem dX8_late_28 : decode cX8_late 28 = .ok (.istore_n 3, 1) := by decide +kernel
theorem dX8_late_29 : decode cX8_late 29 = .ok (.aload_n 0, 1) := by decide +kernel
theorem dX8_late_30 : decode cX8_late 30 = .ok (.iload_n 1, 1) := by decide +kernel
theorem dX8_late_31 : decode cX8_late 31 = .ok (.iload_n 2, 1) := by decide +kernel
theorem dX8_late_32 : decode cX8_late 32 = .ok (.invokevirtual 264, 3) := by decide +kernel
theorem dX8_late_35 : decode cX8_late 35 = .ok (.istore 4, 2) := by decide +kernel
theorem dX8_late_37 : decode cX8_late 37 = .ok (.iload_n 3, 1) := by decide +kernel
theorem dX8_late_38 : decode cX8_late 38 = .ok (.bipush (-4), 2) := by decide +kernel
theorem dX8_late_40 : decode cX8_late 40 = .ok (.if_icmp .eq 10, 3) := by decide +kernel
theorem dX8_late_43 : decode cX8_late 43 = .ok (.iload 4, 2) := by decide +kernel
theorem dX8_late_45 : decode cX8_late 45 = .ok (.bipush (-4), 2) := by decide +kernel
theorem dX8_late_47 : decode cX8_late 47 = .ok (.if_icmp .ne 8, 3) := by decide +kernel
theorem dX8_late_50 : decode cX8_late 50 = .ok (.bipush (-4), 2) := by decide +kernel
theorem dX8_late_52 : decode cX8_late 52 = .ok (.goto 7, 3) := by decide +kernel
theorem dX8_late_55 : decode cX8_late 55 = .ok (.iload 4, 2) := by decide +kernel
theorem dX8_late_57 : decode cX8_late 57 = .ok (.iload_n 3, 1) := by decide +kernel
theorem dX8_late_58 : decode cX8_late 58 = .ok (.isub, 1) := by decide +kernel
theorem dX8_late_59 : decode cX8_late 59 = .ok (.ireturn, 1) := by decide +kernel
set_option maxRecDepth 20000 in
theorem ggX8_train_X8_isFar : GoodIn wsX8_train wsX8_isFar := goodIn_r _ [5, 6, 7, 8, 4, 9] (by decide +kernel) (by decide +kernel)
set_option maxRecDepth 20000 in
theorem gX8_train_X8_isFar : GoodIn wsX8_train (va_wsS RX8 231 yX8_isFar wsX8_isFar) := goodIn_app (goodIn_of _ (by decide +kernel)) ggX8_train_X8_isFar
set_option maxRecDepth 20000 in
theorem ggX8_train_X8_isPart : GoodIn wsX8_train wsX8_isPart := goodIn_r _ [12, 7, 8, 4, 9] (by decide +kernel) (by decide +kernel)
set_option maxRecDepth 20000 in
theorem gX8_train_X8_isPart : GoodIn wsX8_train (va_wsS RX8 248 yX8_isPart wsX8_isPart) := goodIn_app (goodIn_of _ (by decide +kernel)) ggX8_train_X8_isPart
set_option maxRecDepth 20000 in
theorem ggX8_train_X8_starts : GoodIn wsX8_train wsX8_starts := goodIn_r _ [16, 17, 18, 59, 60, 61, 62, 63, 64, 65, 66, 67, 68, 69, 70, 71, 72, 73, 74, 75, 76, 77, 78, 79, 80, 81, 82, 83, 84, 85, 86, 87, 88] (by decide +kernel) (by decide +kernel)
set_option maxRecDepth 20000 in
theorem gX8_train_X8_starts : GoodIn wsX8_train (wsV RX8 188 RX8 yX8_starts wsX8_starts) := goodIn_app (goodIn_of _ (by decide +kernel)) ggX8_train_X8_starts
set_option maxRecDepth 20000 in
theorem ggX8_train_X8_daysGo : GoodIn wsX8_train wsX8_daysGo := goodIn_r _ [22, 23, 24, 25, 26, 4, 27, 1, 17, 28, 29, 30, 31, 32, 33, 34, 35, 36, 37, 38, 39, 40, 41, 42, 43, 44, 45, 46, 47, 48, 49, 50, 51, 52, 53, 54, 55, 56, 57, 58, 59, 60, 61, 62, 63, 64, 65, 66, 67, 68, 69, 70, 71, 72, 73, 74, 75, 76, 77, 78, 79, 80, 81, 82, 83, 84, 85, 86, 87, 88] (by decide +kernel) (by decide +kernel)
set_option maxRecDepth 20000 in
theorem gX8_train_X8_daysGo : GoodIn wsX8_train (wsV RX8 226 RX8 yX8_daysGo wsX8_daysGo) := goodIn_app (goodIn_of _ (by decide +kernel)) ggX8_train_X8_daysGo
set_option maxRecDepth 20000 in
theorem ggX8_train_X8_owesAll : GoodIn wsX8_train wsX8_owesAll := goodIn_r _ [50, 1, 51, 52, 53, 4, 54, 17, 59, 60, 61, 62, 63, 64, 65, 66, 67, 68, 69, 70, 71, 72, 73, 74, 75, 76, 77, 78, 79, 80, 81, 82, 83, 84, 85, 86, 87, 88] (by decide +kernel) (by decide +kernel)
set_option maxRecDepth 20000 in
theorem gX8_train_X8_owesAll : GoodIn wsX8_train (wsV RX8 155 RX8 yX8_owesAll wsX8_owesAll) := goodIn_app (goodIn_of _ (by decide +kernel)) ggX8_train_X8_owesAll
theorem dX8_train_0 : decode cX8_train 0 = .ok (.iload_n 1, 1) := by decide +kernel
theorem dX8_train_1 : decode cX8_train 1 = .ok (.invokestatic 231, 3) := by decide +kernel
theorem dX8_train_4 : decode cX8_train 4 = .ok (.ifCond .eq 10, 3) := by decide +kernel
theorem dX8_train_7 : decode cX8_train 7 = .ok (.iload_n 2, 1) := by decide +kernel
theorem dX8_train_8 : decode cX8_train 8 = .ok (.invokestatic 248, 3) := by decide +kernel
theorem dX8_train_11 : decode cX8_train 11 = .ok (.ifCond .ne 5, 3) := by decide +kernel
theorem dX8_train_14 : decode cX8_train 14 = .ok (.iconst (-1), 1) := by decide +kernel
theorem dX8_train_15 : decode cX8_train 15 = .ok (.ireturn, 1) := by decide +kernel
theorem dX8_train_16 : decode cX8_train 16 = .ok (.aload_n 0, 1) := by decide +kernel
theorem dX8_train_17 : decode cX8_train 17 = .ok (.invokevirtual 188, 3) := by decide +kernel
theorem dX8_train_20 : decode cX8_train 20 = .ok (.aload_n 0, 1) := by decide +kernel
theorem dX8_train_21 : decode cX8_train 21 = .ok (.iload_n 1, 1) := by decide +kernel
theorem dX8_train_22 : decode cX8_train 22 = .ok (.invokevirtual 226, 3) := by decide +kernel
theorem dX8_train_25 : decode cX8_train 25 = .ok (.iconst 0, 1) := by decide +kernel
theorem dX8_train_26 : decode cX8_train 26 = .ok (.istore_n 3, 1) := by decide +kernel
theorem dX8_train_27 : decode cX8_train 27 = .ok (.bipush (-4), 2) := by decide +kernel
theorem dX8_train_29 : decode cX8_train 29 = .ok (.istore 4, 2) := by decide +kernel
theorem dX8_train_31 : decode cX8_train 31 = .ok (.iconst 0, 1) := by decide +kernel
theorem dX8_train_32 : decode cX8_train 32 = .ok (.istore 5, 2) := by decide +kernel
theorem dX8_train_34 : decode cX8_train 34 = .ok (.iload 5, 2) := by decide +kernel
theorem dX8_train_36 : decode cX8_train 36 = .ok (.aload_n 0, 1) := by decide +kernel
theorem dX8_train_37 : decode cX8_train 37 = .ok (.getfield 67, 3) := by decide +kernel
theorem dX8_train_40 : decode cX8_train 40 = .ok (.if_icmp .ge 45, 3) := by decide +kernel
theorem dX8_train_43 : decode cX8_train 43 = .ok (.aload_n 0, 1) := by decide +kernel
theorem dX8_train_44 : decode cX8_train 44 = .ok (.iload 5, 2) := by decide +kernel
theorem dX8_train_46 : decode cX8_train 46 = .ok (.invokevirtual 155, 3) := by decide +kernel
theorem dX8_train_49 : decode cX8_train 49 = .ok (.istore 6, 2) := by decide +kernel
theorem dX8_train_51 : decode cX8_train 51 = .ok (.iload 6, 2) := by decide +kernel
theorem dX8_train_53 : decode cX8_train 53 = .ok (.iload_n 3, 1) := by decide +kernel
theorem dX8_train_54 : decode cX8_train 54 = .ok (.if_icmp .le 8, 3) := by decide +kernel
theorem dX8_train_57 : decode cX8_train 57 = .ok (.iload 5, 2) := by decide +kernel
theorem dX8_train_59 : decode cX8_train 59 = .ok (.goto 5, 3) := by decide +kernel
theorem dX8_train_62 : decode cX8_train 62 = .ok (.iload 4, 2) := by decide +kernel
theorem dX8_train_64 : decode cX8_train 64 = .ok (.istore 4, 2) := by decide +kernel
theorem dX8_train_66 : decode cX8_train 66 = .ok (.iload 6, 2) := by decide +kernel
theorem dX8_train_68 : decode cX8_train 68 = .ok (.iload_n 3, 1) := by decide +kernel
theorem dX8_train_69 : decode cX8_train 69 = .ok (.if_icmp .le 8, 3) := by decide +kernel
theorem dX8_train_72 : decode cX8_train 72 = .ok (.iload 6, 2) := by decide +kernel
theorem dX8_train_74 : decode cX8_train 74 = .ok (.goto 4, 3) := by decide +kernel
theorem dX8_train_77 : decode cX8_train 77 = .ok (.iload_n 3, 1) := by decide +kernel
theorem dX8_train_78 : decode cX8_train 78 = .ok (.istore_n 3, 1) := by decide +kernel
theorem dX8_train_79 : decode cX8_train 79 = .ok (.iinc 5 1, 3) := by decide +kernel
theorem dX8_train_82 : decode cX8_train 82 = .ok (.goto (-48), 3) := by decide +kernel
theorem dX8_train_85 : decode cX8_train 85 = .ok (.iload 4, 2) := by decide +kernel
theorem dX8_train_87 : decode cX8_train 87 = .ok (.bipush (-4), 2) := by decide +kernel
theorem dX8_train_89 : decode cX8_train 89 = .ok (.if_icmp .ne 8, 3) := by decide +kernel
theorem dX8_train_92 : decode cX8_train 92 = .ok (.bipush (-4), 2) := by decide +kernel
theorem dX8_train_94 : decode cX8_train 94 = .ok (.goto 13, 3) := by decide +kernel
theorem dX8_train_97 : decode cX8_train 97 = .ok (.iload_n 2, 1) := by decide +kernel
theorem dX8_train_98 : decode cX8_train 98 = .ok (.ifCond .ne 8, 3) := by decide +kernel
theorem dX8_train_101 : decode cX8_train 101 = .ok (.iload 4, 2) := by decide +kernel
theorem dX8_train_103 : decode cX8_train 103 = .ok (.goto 4, 3) := by decide +kernel
theorem dX8_train_106 : decode cX8_train 106 = .ok (.iload_n 3, 1) := by decide +kernel
theorem dX8_train_107 : decode cX8_train 107 = .ok (.ireturn, 1) := by decide +kernel
theorem dX8_common_0 : decode cX8_common 0 = .ok (.lload_n 0, 1) := by decide +kernel
theorem dX8_common_1 : decode cX8_common 1 = .ok (.lstore 4, 2) := by decide +kernel
theorem dX8_common_3 : decode cX8_common 3 = .ok (.lload_n 2, 1) := by decide +kernel
theorem dX8_common_4 : decode cX8_common 4 = .ok (.lstore 6, 2) := by decide +kernel
theorem dX8_common_6 : decode cX8_common 6 = .ok (.lload 6, 2) := by decide +kernel
theorem dX8_common_8 : decode cX8_common 8 = .ok (.lconst 0, 1) := by decide +kernel
theorem dX8_common_9 : decode cX8_common 9 = .ok (.lcmp, 1) := by decide +kernel
theorem dX8_common_10 : decode cX8_common 10 = .ok (.ifCond .eq 21, 3) := by decide +kernel
theorem dX8_common_13 : decode cX8_common 13 = .ok (.lload 4, 2) := by decide +kernel
theorem dX8_common_15 : decode cX8_common 15 = .ok (.lload 6, 2) := by decide +kernel
theorem dX8_common_17 : decode cX8_common 17 = .ok (.lrem, 1) := by decide +kernel
theorem dX8_common_18 : decode cX8_common 18 = .ok (.lstore 8, 2) := by decide +kernel
theorem dX8_common_20 : decode cX8_common 20 = .ok (.lload 6, 2) := by decide +kernel
theorem dX8_common_22 : decode cX8_common 22 = .ok (.lstore 4, 2) := by decide +kernel
theorem dX8_common_24 : decode cX8_common 24 = .ok (.lload 8, 2) := by decide +kernel
theorem dX8_common_26 : decode cX8_common 26 = .ok (.lstore 6, 2) := by decide +kernel
theorem dX8_common_28 : decode cX8_common 28 = .ok (.goto (-22), 3) := by decide +kernel
theorem dX8_common_31 : decode cX8_common 31 = .ok (.lload 4, 2) := by decide +kernel
theorem dX8_common_33 : decode cX8_common 33 = .ok (.lreturn, 1) := by decide +kernel
set_option maxRecDepth 20000 in
theorem ggX8_told_X8_common : GoodIn wsX8_told wsX8_common := goodIn_r _ [4] (by decide +kernel) (by decide +kernel)
set_option maxRecDepth 20000 in
theorem gX8_told_X8_common : GoodIn wsX8_told (va_wsS RX8 267 yX8_common wsX8_common) := goodIn_app (goodIn_of _ (by decide +kernel)) ggX8_told_X8_common
theorem dX8_told_0 : decode cX8_told 0 = .ok (.lload_n 2, 1) := by decide +kernel
theorem dX8_told_1 : decode cX8_told 1 = .ok (.lload_n 0, 1) := by decide +kernel
theorem dX8_told_2 : decode cX8_told 2 = .ok (.invokestatic 267, 3) := by decide +kernel
theorem dX8_told_5 : decode cX8_told 5 = .ok (.lstore 5, 2) := by decide +kernel
theorem dX8_told_7 : decode cX8_told 7 = .ok (.iload 4, 2) := by decide +kernel
theorem dX8_told_9 : decode cX8_told 9 = .ok (.ifCond .ne 10, 3) := by decide +kernel
theorem dX8_told_12 : decode cX8_told 12 = .ok (.lload_n 0, 1) := by decide +kernel
theorem dX8_told_13 : decode cX8_told 13 = .ok (.lload 5, 2) := by decide +kernel
theorem dX8_told_15 : decode cX8_told 15 = .ok (.ldiv, 1) := by decide +kernel
theorem dX8_told_16 : decode cX8_told 16 = .ok (.goto 7, 3) := by decide +kernel
theorem dX8_told_19 : decode cX8_told 19 = .ok (.lload_n 2, 1) := by decide +kernel
theorem dX8_told_20 : decode cX8_told 20 = .ok (.lload 5, 2) := by decide +kernel
theorem dX8_told_22 : decode cX8_told 22 = .ok (.ldiv, 1) := by decide +kernel
theorem dX8_told_23 : decode cX8_told 23 = .ok (.lreturn, 1) := by decide +kernel
set_option maxRecDepth 20000 in
theorem ggX8_findOdds_X8_starts : GoodIn wsX8_findOdds wsX8_starts := goodIn_r _ [11, 5, 6, 53, 54, 55, 56, 57, 58, 59, 60, 61, 62, 63, 64, 65, 66, 67, 68, 69, 70, 71, 72, 73, 74, 75, 76, 77, 78, 79, 80, 81, 82] (by decide +kernel) (by decide +kernel)
set_option maxRecDepth 20000 in
theorem gX8_findOdds_X8_starts : GoodIn wsX8_findOdds (wsV RX8 188 RX8 yX8_starts wsX8_starts) := goodIn_app (goodIn_of _ (by decide +kernel)) ggX8_findOdds_X8_starts
set_option maxRecDepth 20000 in
theorem ggX8_findOdds_X8_dayGoes : GoodIn wsX8_findOdds wsX8_dayGoes := goodIn_r _ [15, 16, 5, 17, 18, 19, 20, 10, 21, 22, 23, 24, 25, 26, 27, 28, 29, 30, 31, 32, 33, 34, 35, 36, 37, 38, 39, 40, 41, 42, 43, 44, 45, 46, 47, 48, 53, 54, 55, 56, 57, 58, 59, 60, 61, 62, 63, 64, 65, 66, 67, 68, 69, 70, 71, 72, 73, 74, 75, 76, 77, 78, 79, 80, 81, 82] (by decide +kernel) (by decide +kernel)
set_option maxRecDepth 20000 in
theorem gX8_findOdds_X8_dayGoes : GoodIn wsX8_findOdds (wsV RX8 181 RX8 yX8_dayGoes wsX8_dayGoes) := goodIn_app (goodIn_of _ (by decide +kernel)) ggX8_findOdds_X8_dayGoes
set_option maxRecDepth 20000 in
theorem ggX8_findOdds_X8_owesAll : GoodIn wsX8_findOdds wsX8_owesAll := goodIn_r _ [40, 16, 41, 42, 43, 10, 44, 5, 53, 54, 55, 56, 57, 58, 59, 60, 61, 62, 63, 64, 65, 66, 67, 68, 69, 70, 71, 72, 73, 74, 75, 76, 77, 78, 79, 80, 81, 82] (by decide +kernel) (by decide +kernel)
set_option maxRecDepth 20000 in
theorem gX8_findOdds_X8_owesAll : GoodIn wsX8_findOdds (wsV RX8 155 RX8 yX8_owesAll wsX8_owesAll) := goodIn_app (goodIn_of _ (by decide +kernel)) ggX8_findOdds_X8_owesAll
set_option maxRecDepth 20000 in
theorem ggX8_findOdds_X8_allOwed : GoodIn wsX8_findOdds wsX8_allOwed := goodIn_r _ [52, 16, 37, 38, 39, 10, 40, 41, 42, 43, 44, 5, 53, 54, 55, 56, 57, 58, 59, 60, 61, 62, 63, 64, 65, 66, 67, 68, 69, 70, 71, 72, 73, 74, 75, 76, 77, 78, 79, 80, 81, 82] (by decide +kernel) (by decide +kernel)
set_option maxRecDepth 20000 in
theorem gX8_findOdds_X8_allOwed : GoodIn wsX8_findOdds (wsV RX8 194 RX8 yX8_allOwed wsX8_allOwed) := goodIn_app (goodIn_of _ (by decide +kernel)) ggX8_findOdds_X8_allOwed
theorem dX8_findOdds_0 : decode cX8_findOdds 0 = .ok (.aload_n 0, 1) := by decide +kernel
theorem dX8_findOdds_1 : decode cX8_findOdds 1 = .ok (.lconst 0, 1) := by decide +kernel
theorem dX8_findOdds_2 : decode cX8_findOdds 2 = .ok (.putfield 271, 3) := by decide +kernel
theorem dX8_findOdds_5 : decode cX8_findOdds 5 = .ok (.aload_n 0, 1) := by decide +kernel
theorem dX8_findOdds_6 : decode cX8_findOdds 6 = .ok (.lconst 0, 1) := by decide +kernel
theorem dX8_findOdds_7 : decode cX8_findOdds 7 = .ok (.putfield 275, 3) := by decide +kernel
theorem dX8_findOdds_10 : decode cX8_findOdds 10 = .ok (.aload_n 0, 1) := by decide +kernel
theorem dX8_findOdds_11 : decode cX8_findOdds 11 = .ok (.lconst 1, 1) := by decide +kernel
theorem dX8_findOdds_12 : decode cX8_findOdds 12 = .ok (.putfield 278, 3) := by decide +kernel
theorem dX8_findOdds_15 : decode cX8_findOdds 15 = .ok (.iconst 0, 1) := by decide +kernel
theorem dX8_findOdds_16 : decode cX8_findOdds 16 = .ok (.istore 4, 2) := by decide +kernel
theorem dX8_findOdds_18 : decode cX8_findOdds 18 = .ok (.iload 4, 2) := by decide +kernel
theorem dX8_findOdds_20 : decode cX8_findOdds 20 = .ok (.iload_n 3, 1) := by decide +kernel
theorem dX8_findOdds_21 : decode cX8_findOdds 21 = .ok (.if_icmp .ge 21, 3) := by decide +kernel
theorem dX8_findOdds_24 : decode cX8_findOdds 24 = .ok (.aload_n 0, 1) := by decide +kernel
theorem dX8_findOdds_25 : decode cX8_findOdds 25 = .ok (.dup, 1) := by decide +kernel
theorem dX8_findOdds_26 : decode cX8_findOdds 26 = .ok (.getfield 278, 3) := by decide +kernel
theorem dX8_findOdds_29 : decode cX8_findOdds 29 = .ok (.ldc2_w 251, 3) := by decide +kernel
theorem dX8_findOdds_32 : decode cX8_findOdds 32 = .ok (.lmul, 1) := by decide +kernel
theorem dX8_findOdds_33 : decode cX8_findOdds 33 = .ok (.putfield 278, 3) := by decide +kernel
theorem dX8_findOdds_36 : decode cX8_findOdds 36 = .ok (.iinc 4 1, 3) := by decide +kernel
theorem dX8_findOdds_39 : decode cX8_findOdds 39 = .ok (.goto (-21), 3) := by decide +kernel
theorem dX8_findOdds_42 : decode cX8_findOdds 42 = .ok (.iconst 0, 1) := by decide +kernel
theorem dX8_findOdds_43 : decode cX8_findOdds 43 = .ok (.istore 4, 2) := by decide +kernel
theorem dX8_findOdds_45 : decode cX8_findOdds 45 = .ok (.iload 4, 2) := by decide +kernel
theorem dX8_findOdds_47 : decode cX8_findOdds 47 = .ok (.iconst 1, 1) := by decide +kernel
theorem dX8_findOdds_48 : decode cX8_findOdds 48 = .ok (.iload_n 3, 1) := by decide +kernel
theorem dX8_findOdds_49 : decode cX8_findOdds 49 = .ok (.ishl, 1) := by decide +kernel
theorem dX8_findOdds_50 : decode cX8_findOdds 50 = .ok (.if_icmp .ge 143, 3) := by decide +kernel
theorem dX8_findOdds_53 : decode cX8_findOdds 53 = .ok (.lconst 1, 1) := by decide +kernel
theorem dX8_findOdds_54 : decode cX8_findOdds 54 = .ok (.lstore 5, 2) := by decide +kernel
theorem dX8_findOdds_56 : decode cX8_findOdds 56 = .ok (.aload_n 0, 1) := by decide +kernel
theorem dX8_findOdds_57 : decode cX8_findOdds 57 = .ok (.invokevirtual 188, 3) := by decide +kernel
theorem dX8_findOdds_60 : decode cX8_findOdds 60 = .ok (.iconst 0, 1) := by decide +kernel
theorem dX8_findOdds_61 : decode cX8_findOdds 61 = .ok (.istore 7, 2) := by decide +kernel
theorem dX8_findOdds_63 : decode cX8_findOdds 63 = .ok (.iload 7, 2) := by decide +kernel
theorem dX8_findOdds_65 : decode cX8_findOdds 65 = .ok (.iload_n 3, 1) := by decide +kernel
theorem dX8_findOdds_66 : decode cX8_findOdds 66 = .ok (.if_icmp .ge 75, 3) := by decide +kernel
theorem dX8_findOdds_69 : decode cX8_findOdds 69 = .ok (.iload 4, 2) := by decide +kernel
theorem dX8_findOdds_71 : decode cX8_findOdds 71 = .ok (.iload 7, 2) := by decide +kernel
theorem dX8_findOdds_73 : decode cX8_findOdds 73 = .ok (.ishr, 1) := by decide +kernel
theorem dX8_findOdds_74 : decode cX8_findOdds 74 = .ok (.iconst 1, 1) := by decide +kernel
theorem dX8_findOdds_75 : decode cX8_findOdds 75 = .ok (.iand, 1) := by decide +kernel
theorem dX8_findOdds_76 : decode cX8_findOdds 76 = .ok (.iconst 1, 1) := by decide +kernel
theorem dX8_findOdds_77 : decode cX8_findOdds 77 = .ok (.if_icmp .ne 7, 3) := by decide +kernel
theorem dX8_findOdds_80 : decode cX8_findOdds 80 = .ok (.iconst 1, 1) := by decide +kernel
theorem dX8_findOdds_81 : decode cX8_findOdds 81 = .ok (.goto 4, 3) := by decide +kernel
theorem dX8_findOdds_84 : decode cX8_findOdds 84 = .ok (.iconst 0, 1) := by decide +kernel
theorem dX8_findOdds_85 : decode cX8_findOdds 85 = .ok (.istore 8, 2) := by decide +kernel
theorem dX8_findOdds_87 : decode cX8_findOdds 87 = .ok (.lload 5, 2) := by decide +kernel
theorem dX8_findOdds_89 : decode cX8_findOdds 89 = .ok (.iload 8, 2) := by decide +kernel
theorem dX8_findOdds_91 : decode cX8_findOdds 91 = .ok (.ifCond .eq 8, 3) := by decide +kernel
theorem dX8_findOdds_94 : decode cX8_findOdds 94 = .ok (.iload_n 1, 1) := by decide +kernel
theorem dX8_findOdds_95 : decode cX8_findOdds 95 = .ok (.i2l, 1) := by decide +kernel
theorem dX8_findOdds_96 : decode cX8_findOdds 96 = .ok (.goto 8, 3) := by decide +kernel
theorem dX8_findOdds_99 : decode cX8_findOdds 99 = .ok (.bipush 10, 2) := by decide +kernel
theorem dX8_findOdds_101 : decode cX8_findOdds 101 = .ok (.iload_n 1, 1) := by decide +kernel
theorem dX8_findOdds_102 : decode cX8_findOdds 102 = .ok (.isub, 1) := by decide +kernel
theorem dX8_findOdds_103 : decode cX8_findOdds 103 = .ok (.i2l, 1) := by decide +kernel
theorem dX8_findOdds_104 : decode cX8_findOdds 104 = .ok (.lmul, 1) := by decide +kernel
theorem dX8_findOdds_105 : decode cX8_findOdds 105 = .ok (.lstore 5, 2) := by decide +kernel
theorem dX8_findOdds_107 : decode cX8_findOdds 107 = .ok (.aload_n 0, 1) := by decide +kernel
theorem dX8_findOdds_108 : decode cX8_findOdds 108 = .ok (.getfield 13, 3) := by decide +kernel
theorem dX8_findOdds_111 : decode cX8_findOdds 111 = .ok (.bipush 41, 2) := by decide +kernel
theorem dX8_findOdds_113 : decode cX8_findOdds 113 = .ok (.iload 8, 2) := by decide +kernel
theorem dX8_findOdds_115 : decode cX8_findOdds 115 = .ok (.ifCond .eq 8, 3) := by decide +kernel
theorem dX8_findOdds_118 : decode cX8_findOdds 118 = .ok (.bipush 9, 2) := by decide +kernel
theorem dX8_findOdds_120 : decode cX8_findOdds 120 = .ok (.goto 10, 3) := by decide +kernel
theorem dX8_findOdds_123 : decode cX8_findOdds 123 = .ok (.aload_n 0, 1) := by decide +kernel
theorem dX8_findOdds_124 : decode cX8_findOdds 124 = .ok (.getfield 7, 3) := by decide +kernel
theorem dX8_findOdds_127 : decode cX8_findOdds 127 = .ok (.bipush 41, 2) := by decide +kernel
theorem dX8_findOdds_129 : decode cX8_findOdds 129 = .ok (.iaload, 1) := by decide +kernel
theorem dX8_findOdds_130 : decode cX8_findOdds 130 = .ok (.iastore, 1) := by decide +kernel
theorem dX8_findOdds_131 : decode cX8_findOdds 131 = .ok (.aload_n 0, 1) := by decide +kernel
theorem dX8_findOdds_132 : decode cX8_findOdds 132 = .ok (.invokevirtual 181, 3) := by decide +kernel
theorem dX8_findOdds_135 : decode cX8_findOdds 135 = .ok (.iinc 7 1, 3) := by decide +kernel
theorem dX8_findOdds_138 : decode cX8_findOdds 138 = .ok (.goto (-75), 3) := by decide +kernel
theorem dX8_findOdds_141 : decode cX8_findOdds 141 = .ok (.aload_n 0, 1) := by decide +kernel
theorem dX8_findOdds_142 : decode cX8_findOdds 142 = .ok (.dup, 1) := by decide +kernel
theorem dX8_findOdds_143 : decode cX8_findOdds 143 = .ok (.getfield 271, 3) := by decide +kernel
theorem dX8_findOdds_146 : decode cX8_findOdds 146 = .ok (.iload_n 2, 1) := by decide +kernel
theorem dX8_findOdds_147 : decode cX8_findOdds 147 = .ok (.bipush (-4), 2) := by decide +kernel
theorem dX8_findOdds_149 : decode cX8_findOdds 149 = .ok (.if_icmp .eq 16, 3) := by decide +kernel
theorem dX8_findOdds_152 : decode cX8_findOdds 152 = .ok (.aload_n 0, 1) := by decide +kernel
theorem dX8_findOdds_153 : decode cX8_findOdds 153 = .ok (.iload_n 2, 1) := by decide +kernel
theorem dX8_findOdds_154 : decode cX8_findOdds 154 = .ok (.invokevirtual 155, 3) := by decide +kernel
theorem dX8_findOdds_157 : decode cX8_findOdds 157 = .ok (.ifCond .ne 8, 3) := by decide +kernel
theorem dX8_findOdds_160 : decode cX8_findOdds 160 = .ok (.lload 5, 2) := by decide +kernel
theorem dX8_findOdds_162 : decode cX8_findOdds 162 = .ok (.goto 4, 3) := by decide +kernel
theorem dX8_findOdds_165 : decode cX8_findOdds 165 = .ok (.lconst 0, 1) := by decide +kernel
theorem dX8_findOdds_166 : decode cX8_findOdds 166 = .ok (.ladd, 1) := by decide +kernel
theorem dX8_findOdds_167 : decode cX8_findOdds 167 = .ok (.putfield 271, 3) := by decide +kernel
theorem dX8_findOdds_170 : decode cX8_findOdds 170 = .ok (.aload_n 0, 1) := by decide +kernel
theorem dX8_findOdds_171 : decode cX8_findOdds 171 = .ok (.dup, 1) := by decide +kernel
theorem dX8_findOdds_172 : decode cX8_findOdds 172 = .ok (.getfield 275, 3) := by decide +kernel
theorem dX8_findOdds_175 : decode cX8_findOdds 175 = .ok (.lload 5, 2) := by decide +kernel
theorem dX8_findOdds_177 : decode cX8_findOdds 177 = .ok (.aload_n 0, 1) := by decide +kernel
theorem dX8_findOdds_178 : decode cX8_findOdds 178 = .ok (.invokevirtual 194, 3) := by decide +kernel
theorem dX8_findOdds_181 : decode cX8_findOdds 181 = .ok (.i2l, 1) := by decide +kernel
theorem dX8_findOdds_182 : decode cX8_findOdds 182 = .ok (.lmul, 1) := by decide +kernel
theorem dX8_findOdds_183 : decode cX8_findOdds 183 = .ok (.ladd, 1) := by decide +kernel
theorem dX8_findOdds_184 : decode cX8_findOdds 184 = .ok (.putfield 275, 3) := by decide +kernel
theorem dX8_findOdds_187 : decode cX8_findOdds 187 = .ok (.iinc 4 1, 3) := by decide +kernel
theorem dX8_findOdds_190 : decode cX8_findOdds 190 = .ok (.goto (-145), 3) := by decide +kernel
theorem dX8_findOdds_193 : decode cX8_findOdds 193 = .ok (.return_, 1) := by decide +kernel
set_option maxRecDepth 20000 in
theorem ggX8_luck_X8_in : GoodIn wsX8_luck wsX8_in := goodIn_r _ [9] (by decide +kernel) (by decide +kernel)
set_option maxRecDepth 20000 in
theorem gX8_luck_X8_in : GoodIn wsX8_luck (va_wsS RX8 72 yX8_in wsX8_in) := goodIn_app (goodIn_of _ (by decide +kernel)) ggX8_luck_X8_in
set_option maxRecDepth 20000 in
theorem ggX8_luck_X8_isOne : GoodIn wsX8_luck wsX8_isOne := goodIn_r _ [13, 14, 6, 7, 8, 9, 75, 76, 77, 78, 79, 80, 81, 82, 83, 84, 85, 86, 87, 88, 89, 90, 91, 92, 93, 94, 95, 96, 97, 98, 99, 100, 101, 102, 103, 104] (by decide +kernel) (by decide +kernel)
set_option maxRecDepth 20000 in
theorem gX8_luck_X8_isOne : GoodIn wsX8_luck (wsV RX8 145 RX8 yX8_isOne wsX8_isOne) := goodIn_app (goodIn_of _ (by decide +kernel)) ggX8_luck_X8_isOne
set_option maxRecDepth 20000 in
theorem ggX8_luck_X8_isPart : GoodIn wsX8_luck wsX8_isPart := goodIn_r _ [17, 6, 7, 8, 9] (by decide +kernel) (by decide +kernel)
set_option maxRecDepth 20000 in
theorem gX8_luck_X8_isPart : GoodIn wsX8_luck (va_wsS RX8 248 yX8_isPart wsX8_isPart) := goodIn_app (goodIn_of _ (by decide +kernel)) ggX8_luck_X8_isPart
set_option maxRecDepth 20000 in
theorem ggX8_luck_X8_findOdds : GoodIn wsX8_luck wsX8_findOdds := goodIn_r _ [21, 4, 22, 5, 1, 23, 24, 25, 26, 27, 8, 28, 29, 30, 31, 32, 14, 33, 34, 35, 36, 37, 38, 39, 40, 41, 42, 43, 44, 45, 46, 47, 48, 49, 50, 51, 52, 53, 54, 55, 56, 57, 58, 59, 60, 61, 62, 63, 64, 65, 66, 67, 68, 75, 76, 77, 78, 79, 80, 81, 82, 83, 84, 85, 86, 87, 88, 89, 90, 91, 92, 93, 94, 95, 96, 97, 98, 99, 100, 101, 102, 103, 104] (by decide +kernel) (by decide +kernel)
set_option maxRecDepth 20000 in
theorem gX8_luck_X8_findOdds : GoodIn wsX8_luck (wsV RX8 285 RX8 yX8_findOdds wsX8_findOdds) := goodIn_app (goodIn_of _ (by decide +kernel)) ggX8_luck_X8_findOdds
set_option maxRecDepth 20000 in
theorem ggX8_luck_X8_told : GoodIn wsX8_luck wsX8_told := goodIn_r _ [71, 72, 73, 8, 74] (by decide +kernel) (by decide +kernel)
set_option maxRecDepth 20000 in
theorem gX8_luck_X8_told : GoodIn wsX8_luck (va_wsS RX8 288 yX8_told wsX8_told) := goodIn_app (goodIn_of _ (by decide +kernel)) ggX8_luck_X8_told
theorem dX8_luck_0 : decode cX8_luck 0 = .ok (.iload_n 1, 1) := by decide +kernel
theorem dX8_luck_1 : decode cX8_luck 1 = .ok (.i2l, 1) := by decide +kernel
theorem dX8_luck_2 : decode cX8_luck 2 = .ok (.lconst 0, 1) := by decide +kernel
theorem dX8_luck_3 : decode cX8_luck 3 = .ok (.ldc2_w 251, 3) := by decide +kernel
theorem dX8_luck_6 : decode cX8_luck 6 = .ok (.invokestatic 72, 3) := by decide +kernel
theorem dX8_luck_9 : decode cX8_luck 9 = .ok (.ifCond .eq 31, 3) := by decide +kernel
theorem dX8_luck_12 : decode cX8_luck 12 = .ok (.aload_n 0, 1) := by decide +kernel
theorem dX8_luck_13 : decode cX8_luck 13 = .ok (.iload_n 2, 1) := by decide +kernel
theorem dX8_luck_14 : decode cX8_luck 14 = .ok (.invokevirtual 145, 3) := by decide +kernel
theorem dX8_luck_17 : decode cX8_luck 17 = .ok (.ifCond .eq 23, 3) := by decide +kernel
theorem dX8_luck_20 : decode cX8_luck 20 = .ok (.iload_n 3, 1) := by decide +kernel
theorem dX8_luck_21 : decode cX8_luck 21 = .ok (.i2l, 1) := by decide +kernel
theorem dX8_luck_22 : decode cX8_luck 22 = .ok (.lconst 0, 1) := by decide +kernel
theorem dX8_luck_23 : decode cX8_luck 23 = .ok (.ldc2_w 281, 3) := by decide +kernel
theorem dX8_luck_26 : decode cX8_luck 26 = .ok (.invokestatic 72, 3) := by decide +kernel
theorem dX8_luck_29 : decode cX8_luck 29 = .ok (.ifCond .eq 11, 3) := by decide +kernel
theorem dX8_luck_32 : decode cX8_luck 32 = .ok (.iload 4, 2) := by decide +kernel
theorem dX8_luck_34 : decode cX8_luck 34 = .ok (.invokestatic 248, 3) := by decide +kernel
theorem dX8_luck_37 : decode cX8_luck 37 = .ok (.ifCond .ne 7, 3) := by decide +kernel
theorem dX8_luck_40 : decode cX8_luck 40 = .ok (.ldc2_w 283, 3) := by decide +kernel
theorem dX8_luck_43 : decode cX8_luck 43 = .ok (.lreturn, 1) := by decide +kernel
theorem dX8_luck_44 : decode cX8_luck 44 = .ok (.aload_n 0, 1) := by decide +kernel
theorem dX8_luck_45 : decode cX8_luck 45 = .ok (.iload_n 1, 1) := by decide +kernel
theorem dX8_luck_46 : decode cX8_luck 46 = .ok (.iload_n 2, 1) := by decide +kernel
theorem dX8_luck_47 : decode cX8_luck 47 = .ok (.iload_n 3, 1) := by decide +kernel
theorem dX8_luck_48 : decode cX8_luck 48 = .ok (.invokevirtual 285, 3) := by decide +kernel
theorem dX8_luck_51 : decode cX8_luck 51 = .ok (.aload_n 0, 1) := by decide +kernel
theorem dX8_luck_52 : decode cX8_luck 52 = .ok (.getfield 271, 3) := by decide +kernel
theorem dX8_luck_55 : decode cX8_luck 55 = .ok (.aload_n 0, 1) := by decide +kernel
theorem dX8_luck_56 : decode cX8_luck 56 = .ok (.getfield 278, 3) := by decide +kernel
theorem dX8_luck_59 : decode cX8_luck 59 = .ok (.iload 4, 2) := by decide +kernel
theorem dX8_luck_61 : decode cX8_luck 61 = .ok (.invokestatic 288, 3) := by decide +kernel
theorem dX8_luck_64 : decode cX8_luck 64 = .ok (.lreturn, 1) := by decide +kernel
set_option maxRecDepth 20000 in
theorem ggX8_mean_X8_in : GoodIn wsX8_mean wsX8_in := goodIn_r _ [9] (by decide +kernel) (by decide +kernel)
set_option maxRecDepth 20000 in
theorem gX8_mean_X8_in : GoodIn wsX8_mean (va_wsS RX8 72 yX8_in wsX8_in) := goodIn_app (goodIn_of _ (by decide +kernel)) ggX8_mean_X8_in
set_option maxRecDepth 20000 in
theorem ggX8_mean_X8_isPart : GoodIn wsX8_mean wsX8_isPart := goodIn_r _ [12, 6, 7, 8, 9] (by decide +kernel) (by decide +kernel)
set_option maxRecDepth 20000 in
theorem gX8_mean_X8_isPart : GoodIn wsX8_mean (va_wsS RX8 248 yX8_isPart wsX8_isPart) := goodIn_app (goodIn_of _ (by decide +kernel)) ggX8_mean_X8_isPart
set_option maxRecDepth 20000 in
theorem ggX8_mean_X8_findOdds : GoodIn wsX8_mean wsX8_findOdds := goodIn_r _ [16, 17, 4, 5, 1, 18, 19, 20, 21, 22, 8, 23, 24, 25, 26, 27, 28, 29, 30, 31, 32, 33, 34, 35, 36, 37, 38, 39, 40, 41, 42, 43, 44, 45, 46, 47, 48, 49, 50, 51, 52, 53, 54, 55, 56, 57, 58, 59, 60, 61, 62, 63, 64, 71, 72, 73, 74, 75, 76, 77, 78, 79, 80, 81, 82, 83, 84, 85, 86, 87, 88, 89, 90, 91, 92, 93, 94, 95, 96, 97, 98, 99, 100] (by decide +kernel) (by decide +kernel)
set_option maxRecDepth 20000 in
theorem gX8_mean_X8_findOdds : GoodIn wsX8_mean (wsV RX8 285 RX8 yX8_findOdds wsX8_findOdds) := goodIn_app (goodIn_of _ (by decide +kernel)) ggX8_mean_X8_findOdds
set_option maxRecDepth 20000 in
theorem ggX8_mean_X8_told : GoodIn wsX8_mean wsX8_told := goodIn_r _ [67, 68, 69, 8, 70] (by decide +kernel) (by decide +kernel)
set_option maxRecDepth 20000 in
theorem gX8_mean_X8_told : GoodIn wsX8_mean (va_wsS RX8 288 yX8_told wsX8_told) := goodIn_app (goodIn_of _ (by decide +kernel)) ggX8_mean_X8_told
theorem dX8_mean_0 : decode cX8_mean 0 = .ok (.iload_n 1, 1) := by decide +kernel
theorem dX8_mean_1 : decode cX8_mean 1 = .ok (.i2l, 1) := by decide +kernel
theorem dX8_mean_2 : decode cX8_mean 2 = .ok (.lconst 0, 1) := by decide +kernel
theorem dX8_mean_3 : decode cX8_mean 3 = .ok (.ldc2_w 251, 3) := by decide +kernel
theorem dX8_mean_6 : decode cX8_mean 6 = .ok (.invokestatic 72, 3) := by decide +kernel
theorem dX8_mean_9 : decode cX8_mean 9 = .ok (.ifCond .eq 22, 3) := by decide +kernel
theorem dX8_mean_12 : decode cX8_mean 12 = .ok (.iload_n 2, 1) := by decide +kernel
theorem dX8_mean_13 : decode cX8_mean 13 = .ok (.i2l, 1) := by decide +kernel
theorem dX8_mean_14 : decode cX8_mean 14 = .ok (.lconst 0, 1) := by decide +kernel
theorem dX8_mean_15 : decode cX8_mean 15 = .ok (.ldc2_w 281, 3) := by decide +kernel
theorem dX8_mean_18 : decode cX8_mean 18 = .ok (.invokestatic 72, 3) := by decide +kernel
theorem dX8_mean_21 : decode cX8_mean 21 = .ok (.ifCond .eq 10, 3) := by decide +kernel
theorem dX8_mean_24 : decode cX8_mean 24 = .ok (.iload_n 3, 1) := by decide +kernel
theorem dX8_mean_25 : decode cX8_mean 25 = .ok (.invokestatic 248, 3) := by decide +kernel
theorem dX8_mean_28 : decode cX8_mean 28 = .ok (.ifCond .ne 7, 3) := by decide +kernel
theorem dX8_mean_31 : decode cX8_mean 31 = .ok (.ldc2_w 283, 3) := by decide +kernel
theorem dX8_mean_34 : decode cX8_mean 34 = .ok (.lreturn, 1) := by decide +kernel
theorem dX8_mean_35 : decode cX8_mean 35 = .ok (.aload_n 0, 1) := by decide +kernel
theorem dX8_mean_36 : decode cX8_mean 36 = .ok (.iload_n 1, 1) := by decide +kernel
theorem dX8_mean_37 : decode cX8_mean 37 = .ok (.bipush (-4), 2) := by decide +kernel
theorem dX8_mean_39 : decode cX8_mean 39 = .ok (.iload_n 2, 1) := by decide +kernel
theorem dX8_mean_40 : decode cX8_mean 40 = .ok (.invokevirtual 285, 3) := by decide +kernel
theorem dX8_mean_43 : decode cX8_mean 43 = .ok (.aload_n 0, 1) := by decide +kernel
theorem dX8_mean_44 : decode cX8_mean 44 = .ok (.getfield 275, 3) := by decide +kernel
theorem dX8_mean_47 : decode cX8_mean 47 = .ok (.aload_n 0, 1) := by decide +kernel
theorem dX8_mean_48 : decode cX8_mean 48 = .ok (.getfield 278, 3) := by decide +kernel
theorem dX8_mean_51 : decode cX8_mean 51 = .ok (.iload_n 3, 1) := by decide +kernel
theorem dX8_mean_52 : decode cX8_mean 52 = .ok (.invokestatic 288, 3) := by decide +kernel
theorem dX8_mean_55 : decode cX8_mean 55 = .ok (.lreturn, 1) := by decide +kernel
set_option maxRecDepth 20000 in
theorem ggX8_see_X8_in : GoodIn wsX8_see wsX8_in := goodIn_r _ [6] (by decide +kernel) (by decide +kernel)
set_option maxRecDepth 20000 in
theorem gX8_see_X8_in : GoodIn wsX8_see (va_wsS RX8 72 yX8_in wsX8_in) := goodIn_app (goodIn_of _ (by decide +kernel)) ggX8_see_X8_in
set_option maxRecDepth 20000 in
theorem ggX8_see_X8_isOne : GoodIn wsX8_see wsX8_isOne := goodIn_r _ [10, 11, 3, 4, 5, 6, 15, 16, 17, 18, 19, 20, 21, 22, 23, 24, 25, 26, 27, 28, 29, 30, 31, 32, 33, 34, 35, 36, 37, 38, 39, 40, 41, 42, 43, 44] (by decide +kernel) (by decide +kernel)
set_option maxRecDepth 20000 in
theorem gX8_see_X8_isOne : GoodIn wsX8_see (wsV RX8 145 RX8 yX8_isOne wsX8_isOne) := goodIn_app (goodIn_of _ (by decide +kernel)) ggX8_see_X8_isOne
set_option maxRecDepth 20000 in
theorem ggX8_see_X8_flag : GoodIn wsX8_see wsX8_flag := goodIn_r _ [14] (by decide +kernel) (by decide +kernel)
set_option maxRecDepth 20000 in
theorem gX8_see_X8_flag : GoodIn wsX8_see (va_wsS RX8 184 yX8_flag wsX8_flag) := goodIn_app (goodIn_of _ (by decide +kernel)) ggX8_see_X8_flag
theorem dX8_see_0 : decode cX8_see 0 = .ok (.iload_n 1, 1) := by decide +kernel
theorem dX8_see_1 : decode cX8_see 1 = .ok (.i2l, 1) := by decide +kernel
theorem dX8_see_2 : decode cX8_see 2 = .ok (.lconst 0, 1) := by decide +kernel
theorem dX8_see_3 : decode cX8_see 3 = .ok (.ldc2_w 224, 3) := by decide +kernel
theorem dX8_see_6 : decode cX8_see 6 = .ok (.invokestatic 72, 3) := by decide +kernel
theorem dX8_see_9 : decode cX8_see 9 = .ok (.ifCond .eq 11, 3) := by decide +kernel
theorem dX8_see_12 : decode cX8_see 12 = .ok (.aload_n 0, 1) := by decide +kernel
theorem dX8_see_13 : decode cX8_see 13 = .ok (.iload_n 2, 1) := by decide +kernel
theorem dX8_see_14 : decode cX8_see 14 = .ok (.invokevirtual 145, 3) := by decide +kernel
theorem dX8_see_17 : decode cX8_see 17 = .ok (.ifCond .ne 5, 3) := by decide +kernel
theorem dX8_see_20 : decode cX8_see 20 = .ok (.iconst (-1), 1) := by decide +kernel
theorem dX8_see_21 : decode cX8_see 21 = .ok (.ireturn, 1) := by decide +kernel
theorem dX8_see_22 : decode cX8_see 22 = .ok (.aload_n 0, 1) := by decide +kernel
theorem dX8_see_23 : decode cX8_see 23 = .ok (.getfield 7, 3) := by decide +kernel
theorem dX8_see_26 : decode cX8_see 26 = .ok (.bipush 42, 2) := by decide +kernel
theorem dX8_see_28 : decode cX8_see 28 = .ok (.iaload, 1) := by decide +kernel
theorem dX8_see_29 : decode cX8_see 29 = .ok (.bipush 6, 2) := by decide +kernel
theorem dX8_see_31 : decode cX8_see 31 = .ok (.if_icmp .ne 6, 3) := by decide +kernel
theorem dX8_see_34 : decode cX8_see 34 = .ok (.bipush (-3), 2) := by decide +kernel
theorem dX8_see_36 : decode cX8_see 36 = .ok (.ireturn, 1) := by decide +kernel
theorem dX8_see_37 : decode cX8_see 37 = .ok (.bipush 43, 2) := by decide +kernel
theorem dX8_see_39 : decode cX8_see 39 = .ok (.iconst 3, 1) := by decide +kernel
theorem dX8_see_40 : decode cX8_see 40 = .ok (.aload_n 0, 1) := by decide +kernel
theorem dX8_see_41 : decode cX8_see 41 = .ok (.getfield 7, 3) := by decide +kernel
theorem dX8_see_44 : decode cX8_see 44 = .ok (.bipush 42, 2) := by decide +kernel
theorem dX8_see_46 : decode cX8_see 46 = .ok (.iaload, 1) := by decide +kernel
theorem dX8_see_47 : decode cX8_see 47 = .ok (.imul, 1) := by decide +kernel
theorem dX8_see_48 : decode cX8_see 48 = .ok (.iadd, 1) := by decide +kernel
theorem dX8_see_49 : decode cX8_see 49 = .ok (.istore 4, 2) := by decide +kernel
theorem dX8_see_51 : decode cX8_see 51 = .ok (.aload_n 0, 1) := by decide +kernel
theorem dX8_see_52 : decode cX8_see 52 = .ok (.getfield 7, 3) := by decide +kernel
theorem dX8_see_55 : decode cX8_see 55 = .ok (.iload 4, 2) := by decide +kernel
theorem dX8_see_57 : decode cX8_see 57 = .ok (.iload_n 1, 1) := by decide +kernel
theorem dX8_see_58 : decode cX8_see 58 = .ok (.iastore, 1) := by decide +kernel
theorem dX8_see_59 : decode cX8_see 59 = .ok (.aload_n 0, 1) := by decide +kernel
theorem dX8_see_60 : decode cX8_see 60 = .ok (.getfield 7, 3) := by decide +kernel
theorem dX8_see_63 : decode cX8_see 63 = .ok (.iload 4, 2) := by decide +kernel
theorem dX8_see_65 : decode cX8_see 65 = .ok (.iconst 1, 1) := by decide +kernel
theorem dX8_see_66 : decode cX8_see 66 = .ok (.iadd, 1) := by decide +kernel
theorem dX8_see_67 : decode cX8_see 67 = .ok (.iload_n 2, 1) := by decide +kernel
theorem dX8_see_68 : decode cX8_see 68 = .ok (.iastore, 1) := by decide +kernel
theorem dX8_see_69 : decode cX8_see 69 = .ok (.aload_n 0, 1) := by decide +kernel
theorem dX8_see_70 : decode cX8_see 70 = .ok (.getfield 7, 3) := by decide +kernel
theorem dX8_see_73 : decode cX8_see 73 = .ok (.iload 4, 2) := by decide +kernel
theorem dX8_see_75 : decode cX8_see 75 = .ok (.iconst 2, 1) := by decide +kernel
theorem dX8_see_76 : decode cX8_see 76 = .ok (.iadd, 1) := by decide +kernel
theorem dX8_see_77 : decode cX8_see 77 = .ok (.iload_n 3, 1) := by decide +kernel
theorem dX8_see_78 : decode cX8_see 78 = .ok (.invokestatic 184, 3) := by decide +kernel
theorem dX8_see_81 : decode cX8_see 81 = .ok (.iastore, 1) := by decide +kernel
theorem dX8_see_82 : decode cX8_see 82 = .ok (.aload_n 0, 1) := by decide +kernel
theorem dX8_see_83 : decode cX8_see 83 = .ok (.getfield 7, 3) := by decide +kernel
theorem dX8_see_86 : decode cX8_see 86 = .ok (.bipush 42, 2) := by decide +kernel
theorem dX8_see_88 : decode cX8_see 88 = .ok (.dup2, 1) := by decide +kernel
theorem dX8_see_89 : decode cX8_see 89 = .ok (.iaload, 1) := by decide +kernel
theorem dX8_see_90 : decode cX8_see 90 = .ok (.iconst 1, 1) := by decide +kernel
theorem dX8_see_91 : decode cX8_see 91 = .ok (.iadd, 1) := by decide +kernel
theorem dX8_see_92 : decode cX8_see 92 = .ok (.iastore, 1) := by decide +kernel
theorem dX8_see_93 : decode cX8_see 93 = .ok (.aload_n 0, 1) := by decide +kernel
theorem dX8_see_94 : decode cX8_see 94 = .ok (.getfield 7, 3) := by decide +kernel
theorem dX8_see_97 : decode cX8_see 97 = .ok (.bipush 42, 2) := by decide +kernel
theorem dX8_see_99 : decode cX8_see 99 = .ok (.iaload, 1) := by decide +kernel
theorem dX8_see_100 : decode cX8_see 100 = .ok (.ireturn, 1) := by decide +kernel
set_option maxRecDepth 20000 in
theorem ggX8_forget_X8_in : GoodIn wsX8_forget wsX8_in := goodIn_r _ [5] (by decide +kernel) (by decide +kernel)
set_option maxRecDepth 20000 in
theorem gX8_forget_X8_in : GoodIn wsX8_forget (va_wsS RX8 72 yX8_in wsX8_in) := goodIn_app (goodIn_of _ (by decide +kernel)) ggX8_forget_X8_in
set_option maxRecDepth 20000 in
theorem ggX8_forget_X8_becomes : GoodIn wsX8_forget wsX8_becomes := goodIn_r _ [9, 1, 10, 11, 12, 13, 14, 15, 16, 17, 18, 19, 20, 21, 22, 23, 24, 25, 26, 27, 28, 29, 30, 31, 32, 33, 34, 35, 36, 37, 38, 39] (by decide +kernel) (by decide +kernel)
set_option maxRecDepth 20000 in
theorem gX8_forget_X8_becomes : GoodIn wsX8_forget (wsV RX8 213 RX8 yX8_becomes wsX8_becomes) := goodIn_app (goodIn_of _ (by decide +kernel)) ggX8_forget_X8_becomes
theorem dX8_forget_0 : decode cX8_forget 0 = .ok (.iload_n 1, 1) := by decide +kernel
theorem dX8_forget_1 : decode cX8_forget 1 = .ok (.i2l, 1) := by decide +kernel
theorem dX8_forget_2 : decode cX8_forget 2 = .ok (.lconst 0, 1) := by decide +kernel
theorem dX8_forget_3 : decode cX8_forget 3 = .ok (.aload_n 0, 1) := by decide +kernel
theorem dX8_forget_4 : decode cX8_forget 4 = .ok (.getfield 7, 3) := by decide +kernel
theorem dX8_forget_7 : decode cX8_forget 7 = .ok (.bipush 42, 2) := by decide +kernel
theorem dX8_forget_9 : decode cX8_forget 9 = .ok (.iaload, 1) := by decide +kernel
theorem dX8_forget_10 : decode cX8_forget 10 = .ok (.i2l, 1) := by decide +kernel
theorem dX8_forget_11 : decode cX8_forget 11 = .ok (.invokestatic 72, 3) := by decide +kernel
theorem dX8_forget_14 : decode cX8_forget 14 = .ok (.ifCond .eq 13, 3) := by decide +kernel
theorem dX8_forget_17 : decode cX8_forget 17 = .ok (.aload_n 0, 1) := by decide +kernel
theorem dX8_forget_18 : decode cX8_forget 18 = .ok (.bipush 42, 2) := by decide +kernel
theorem dX8_forget_20 : decode cX8_forget 20 = .ok (.iload_n 1, 1) := by decide +kernel
theorem dX8_forget_21 : decode cX8_forget 21 = .ok (.invokevirtual 213, 3) := by decide +kernel
theorem dX8_forget_24 : decode cX8_forget 24 = .ok (.goto 4, 3) := by decide +kernel
theorem dX8_forget_27 : decode cX8_forget 27 = .ok (.iconst (-1), 1) := by decide +kernel
theorem dX8_forget_28 : decode cX8_forget 28 = .ok (.ireturn, 1) := by decide +kernel
set_option maxRecDepth 20000 in
theorem ggX8_isSoWith_X8_starts : GoodIn wsX8_isSoWith wsX8_starts := goodIn_r _ [7, 8, 2, 53, 54, 55, 56, 57, 58, 59, 60, 61, 62, 63, 64, 65, 66, 67, 68, 69, 70, 71, 72, 73, 74, 75, 76, 77, 78, 79, 80, 81, 82] (by decide +kernel) (by decide +kernel)
set_option maxRecDepth 20000 in
theorem gX8_isSoWith_X8_starts : GoodIn wsX8_isSoWith (wsV RX8 188 RX8 yX8_starts wsX8_starts) := goodIn_app (goodIn_of _ (by decide +kernel)) ggX8_isSoWith_X8_starts
set_option maxRecDepth 20000 in
theorem ggX8_isSoWith_X8_becomesOf : GoodIn wsX8_isSoWith wsX8_becomesOf := goodIn_r _ [12, 8, 53, 54, 55, 56, 57, 58, 59, 60, 61, 62, 63, 64, 65, 66, 67, 68, 69, 70, 71, 72, 73, 74, 75, 76, 77, 78, 79, 80, 81, 82] (by decide +kernel) (by decide +kernel)
set_option maxRecDepth 20000 in
theorem gX8_isSoWith_X8_becomesOf : GoodIn wsX8_isSoWith (wsV RX8 164 RX8 yX8_becomesOf wsX8_becomesOf) := goodIn_app (goodIn_of _ (by decide +kernel)) ggX8_isSoWith_X8_becomesOf
set_option maxRecDepth 20000 in
theorem ggX8_isSoWith_X8_riding : GoodIn wsX8_isSoWith wsX8_riding := goodIn_r _ [16, 17, 18, 19, 20, 6, 21, 22, 23, 24, 25, 8, 26, 27, 28, 53, 54, 55, 56, 57, 58, 59, 60, 61, 62, 63, 64, 65, 66, 67, 68, 69, 70, 71, 72, 73, 74, 75, 76, 77, 78, 79, 80, 81, 82] (by decide +kernel) (by decide +kernel)
set_option maxRecDepth 20000 in
theorem gX8_isSoWith_X8_riding : GoodIn wsX8_isSoWith (wsV RX8 191 RX8 yX8_riding wsX8_riding) := goodIn_app (goodIn_of _ (by decide +kernel)) ggX8_isSoWith_X8_riding
set_option maxRecDepth 20000 in
theorem ggX8_isSoWith_X8_dayGoes : GoodIn wsX8_isSoWith wsX8_dayGoes := goodIn_r _ [32, 17, 8, 33, 34, 35, 36, 6, 37, 38, 39, 40, 41, 42, 43, 44, 9, 10, 11, 12, 45, 46, 47, 48, 18, 19, 20, 21, 22, 23, 24, 25, 49, 50, 51, 52, 53, 54, 55, 56, 57, 58, 59, 60, 61, 62, 63, 64, 65, 66, 67, 68, 69, 70, 71, 72, 73, 74, 75, 76, 77, 78, 79, 80, 81, 82] (by decide +kernel) (by decide +kernel)
set_option maxRecDepth 20000 in
theorem gX8_isSoWith_X8_dayGoes : GoodIn wsX8_isSoWith (wsV RX8 181 RX8 yX8_dayGoes wsX8_dayGoes) := goodIn_app (goodIn_of _ (by decide +kernel)) ggX8_isSoWith_X8_dayGoes
theorem dX8_isSoWith_0 : decode cX8_isSoWith 0 = .ok (.aload_n 0, 1) := by decide +kernel
theorem dX8_isSoWith_1 : decode cX8_isSoWith 1 = .ok (.invokevirtual 188, 3) := by decide +kernel
theorem dX8_isSoWith_4 : decode cX8_isSoWith 4 = .ok (.aload_n 0, 1) := by decide +kernel
theorem dX8_isSoWith_5 : decode cX8_isSoWith 5 = .ok (.iload_n 1, 1) := by decide +kernel
theorem dX8_isSoWith_6 : decode cX8_isSoWith 6 = .ok (.iload_n 2, 1) := by decide +kernel
theorem dX8_isSoWith_7 : decode cX8_isSoWith 7 = .ok (.iload_n 3, 1) := by decide +kernel
theorem dX8_isSoWith_8 : decode cX8_isSoWith 8 = .ok (.invokevirtual 164, 3) := by decide +kernel
theorem dX8_isSoWith_11 : decode cX8_isSoWith 11 = .ok (.iconst 0, 1) := by decide +kernel
theorem dX8_isSoWith_12 : decode cX8_isSoWith 12 = .ok (.istore 4, 2) := by decide +kernel
theorem dX8_isSoWith_14 : decode cX8_isSoWith 14 = .ok (.iload 4, 2) := by decide +kernel
theorem dX8_isSoWith_16 : decode cX8_isSoWith 16 = .ok (.bipush 30, 2) := by decide +kernel
theorem dX8_isSoWith_18 : decode cX8_isSoWith 18 = .ok (.if_icmp .gt 24, 3) := by decide +kernel
theorem dX8_isSoWith_21 : decode cX8_isSoWith 21 = .ok (.aload_n 0, 1) := by decide +kernel
theorem dX8_isSoWith_22 : decode cX8_isSoWith 22 = .ok (.getfield 29, 3) := by decide +kernel
theorem dX8_isSoWith_25 : decode cX8_isSoWith 25 = .ok (.iload 4, 2) := by decide +kernel
theorem dX8_isSoWith_27 : decode cX8_isSoWith 27 = .ok (.aload_n 0, 1) := by decide +kernel
theorem dX8_isSoWith_28 : decode cX8_isSoWith 28 = .ok (.invokevirtual 191, 3) := by decide +kernel
theorem dX8_isSoWith_31 : decode cX8_isSoWith 31 = .ok (.iastore, 1) := by decide +kernel
theorem dX8_isSoWith_32 : decode cX8_isSoWith 32 = .ok (.aload_n 0, 1) := by decide +kernel
theorem dX8_isSoWith_33 : decode cX8_isSoWith 33 = .ok (.invokevirtual 181, 3) := by decide +kernel
theorem dX8_isSoWith_36 : decode cX8_isSoWith 36 = .ok (.iinc 4 1, 3) := by decide +kernel
theorem dX8_isSoWith_39 : decode cX8_isSoWith 39 = .ok (.goto (-25), 3) := by decide +kernel
theorem dX8_isSoWith_42 : decode cX8_isSoWith 42 = .ok (.iconst 1, 1) := by decide +kernel
theorem dX8_isSoWith_43 : decode cX8_isSoWith 43 = .ok (.istore 4, 2) := by decide +kernel
theorem dX8_isSoWith_45 : decode cX8_isSoWith 45 = .ok (.iconst 0, 1) := by decide +kernel
theorem dX8_isSoWith_46 : decode cX8_isSoWith 46 = .ok (.istore 5, 2) := by decide +kernel
theorem dX8_isSoWith_48 : decode cX8_isSoWith 48 = .ok (.iload 5, 2) := by decide +kernel
theorem dX8_isSoWith_50 : decode cX8_isSoWith 50 = .ok (.aload_n 0, 1) := by decide +kernel
theorem dX8_isSoWith_51 : decode cX8_isSoWith 51 = .ok (.getfield 7, 3) := by decide +kernel
theorem dX8_isSoWith_54 : decode cX8_isSoWith 54 = .ok (.bipush 42, 2) := by decide +kernel
theorem dX8_isSoWith_56 : decode cX8_isSoWith 56 = .ok (.iaload, 1) := by decide +kernel
theorem dX8_isSoWith_57 : decode cX8_isSoWith 57 = .ok (.if_icmp .ge 66, 3) := by decide +kernel
theorem dX8_isSoWith_60 : decode cX8_isSoWith 60 = .ok (.bipush 43, 2) := by decide +kernel
theorem dX8_isSoWith_62 : decode cX8_isSoWith 62 = .ok (.iconst 3, 1) := by decide +kernel
theorem dX8_isSoWith_63 : decode cX8_isSoWith 63 = .ok (.iload 5, 2) := by decide +kernel
theorem dX8_isSoWith_65 : decode cX8_isSoWith 65 = .ok (.imul, 1) := by decide +kernel
theorem dX8_isSoWith_66 : decode cX8_isSoWith 66 = .ok (.iadd, 1) := by decide +kernel
theorem dX8_isSoWith_67 : decode cX8_isSoWith 67 = .ok (.istore 6, 2) := by decide +kernel
theorem dX8_isSoWith_69 : decode cX8_isSoWith 69 = .ok (.iload 4, 2) := by decide +kernel
theorem dX8_isSoWith_71 : decode cX8_isSoWith 71 = .ok (.ifCond .eq 43, 3) := by decide +kernel
theorem dX8_isSoWith_74 : decode cX8_isSoWith 74 = .ok (.aload_n 0, 1) := by decide +kernel
theorem dX8_isSoWith_75 : decode cX8_isSoWith 75 = .ok (.getfield 29, 3) := by decide +kernel
theorem dX8_isSoWith_78 : decode cX8_isSoWith 78 = .ok (.aload_n 0, 1) := by decide +kernel
theorem dX8_isSoWith_79 : decode cX8_isSoWith 79 = .ok (.getfield 7, 3) := by decide +kernel
theorem dX8_isSoWith_82 : decode cX8_isSoWith 82 = .ok (.iload 6, 2) := by decide +kernel
theorem dX8_isSoWith_84 : decode cX8_isSoWith 84 = .ok (.iaload, 1) := by decide +kernel
theorem dX8_isSoWith_85 : decode cX8_isSoWith 85 = .ok (.iaload, 1) := by decide +kernel
theorem dX8_isSoWith_86 : decode cX8_isSoWith 86 = .ok (.aload_n 0, 1) := by decide +kernel
theorem dX8_isSoWith_87 : decode cX8_isSoWith 87 = .ok (.getfield 7, 3) := by decide +kernel
theorem dX8_isSoWith_90 : decode cX8_isSoWith 90 = .ok (.iload 6, 2) := by decide +kernel
theorem dX8_isSoWith_92 : decode cX8_isSoWith 92 = .ok (.iconst 1, 1) := by decide +kernel
theorem dX8_isSoWith_93 : decode cX8_isSoWith 93 = .ok (.iadd, 1) := by decide +kernel
theorem dX8_isSoWith_94 : decode cX8_isSoWith 94 = .ok (.iaload, 1) := by decide +kernel
theorem dX8_isSoWith_95 : decode cX8_isSoWith 95 = .ok (.ishr, 1) := by decide +kernel
theorem dX8_isSoWith_96 : decode cX8_isSoWith 96 = .ok (.iconst 1, 1) := by decide +kernel
theorem dX8_isSoWith_97 : decode cX8_isSoWith 97 = .ok (.iand, 1) := by decide +kernel
theorem dX8_isSoWith_98 : decode cX8_isSoWith 98 = .ok (.aload_n 0, 1) := by decide +kernel
theorem dX8_isSoWith_99 : decode cX8_isSoWith 99 = .ok (.getfield 7, 3) := by decide +kernel
theorem dX8_isSoWith_102 : decode cX8_isSoWith 102 = .ok (.iload 6, 2) := by decide +kernel
theorem dX8_isSoWith_104 : decode cX8_isSoWith 104 = .ok (.iconst 2, 1) := by decide +kernel
theorem dX8_isSoWith_105 : decode cX8_isSoWith 105 = .ok (.iadd, 1) := by decide +kernel
theorem dX8_isSoWith_106 : decode cX8_isSoWith 106 = .ok (.iaload, 1) := by decide +kernel
theorem dX8_isSoWith_107 : decode cX8_isSoWith 107 = .ok (.if_icmp .ne 7, 3) := by decide +kernel
theorem dX8_isSoWith_110 : decode cX8_isSoWith 110 = .ok (.iconst 1, 1) := by decide +kernel
theorem dX8_isSoWith_111 : decode cX8_isSoWith 111 = .ok (.goto 4, 3) := by decide +kernel
theorem dX8_isSoWith_114 : decode cX8_isSoWith 114 = .ok (.iconst 0, 1) := by decide +kernel
theorem dX8_isSoWith_115 : decode cX8_isSoWith 115 = .ok (.istore 4, 2) := by decide +kernel
theorem dX8_isSoWith_117 : decode cX8_isSoWith 117 = .ok (.iinc 5 1, 3) := by decide +kernel
theorem dX8_isSoWith_120 : decode cX8_isSoWith 120 = .ok (.goto (-72), 3) := by decide +kernel
theorem dX8_isSoWith_123 : decode cX8_isSoWith 123 = .ok (.iload 4, 2) := by decide +kernel
theorem dX8_isSoWith_125 : decode cX8_isSoWith 125 = .ok (.ireturn, 1) := by decide +kernel
set_option maxRecDepth 20000 in
theorem ggX8_which_X8_isSoWith : GoodIn wsX8_which wsX8_isSoWith := goodIn_r _ [5, 6, 7, 8, 9, 10, 4, 11, 12, 13, 14, 15, 16, 17, 18, 19, 20, 21, 22, 23, 24, 25, 26, 27, 28, 29, 30, 31, 32, 33, 34, 35, 36, 37, 38, 39, 40, 41, 42, 43, 44, 45, 46, 47, 48, 49, 50, 51, 52, 53, 54, 55, 56, 57, 58, 59, 60, 61, 62, 63, 64, 65, 66, 67, 68, 69, 70, 71, 72, 73, 74, 75, 76, 77, 78, 79, 80, 81, 82, 83, 84, 85, 86] (by decide +kernel) (by decide +kernel)
set_option maxRecDepth 20000 in
theorem gX8_which_X8_isSoWith : GoodIn wsX8_which (wsV RX8 292 RX8 yX8_isSoWith wsX8_isSoWith) := goodIn_app (goodIn_of _ (by decide +kernel)) ggX8_which_X8_isSoWith
set_option maxRecDepth 20000 in
theorem ggX8_which_X8_flag : GoodIn wsX8_which wsX8_flag := goodIn_r _ [32] (by decide +kernel) (by decide +kernel)
set_option maxRecDepth 20000 in
theorem gX8_which_X8_flag : GoodIn wsX8_which (va_wsS RX8 184 yX8_flag wsX8_flag) := goodIn_app (goodIn_of _ (by decide +kernel)) ggX8_which_X8_flag
theorem dX8_which_0 : decode cX8_which 0 = .ok (.iconst 0, 1) := by decide +kernel
theorem dX8_which_1 : decode cX8_which 1 = .ok (.istore 4, 2) := by decide +kernel
theorem dX8_which_3 : decode cX8_which 3 = .ok (.iconst 0, 1) := by decide +kernel
theorem dX8_which_4 : decode cX8_which 4 = .ok (.istore 5, 2) := by decide +kernel
theorem dX8_which_6 : decode cX8_which 6 = .ok (.iload 5, 2) := by decide +kernel
theorem dX8_which_8 : decode cX8_which 8 = .ok (.iload_n 3, 1) := by decide +kernel
theorem dX8_which_9 : decode cX8_which 9 = .ok (.if_icmp .gt 28, 3) := by decide +kernel
theorem dX8_which_12 : decode cX8_which 12 = .ok (.iload 4, 2) := by decide +kernel
theorem dX8_which_14 : decode cX8_which 14 = .ok (.aload_n 0, 1) := by decide +kernel
theorem dX8_which_15 : decode cX8_which 15 = .ok (.iload_n 1, 1) := by decide +kernel
theorem dX8_which_16 : decode cX8_which 16 = .ok (.iload_n 2, 1) := by decide +kernel
theorem dX8_which_17 : decode cX8_which 17 = .ok (.iload 5, 2) := by decide +kernel
theorem dX8_which_19 : decode cX8_which 19 = .ok (.invokevirtual 292, 3) := by decide +kernel
theorem dX8_which_22 : decode cX8_which 22 = .ok (.invokestatic 184, 3) := by decide +kernel
theorem dX8_which_25 : decode cX8_which 25 = .ok (.iload 5, 2) := by decide +kernel
theorem dX8_which_27 : decode cX8_which 27 = .ok (.ishl, 1) := by decide +kernel
theorem dX8_which_28 : decode cX8_which 28 = .ok (.ior, 1) := by decide +kernel
theorem dX8_which_29 : decode cX8_which 29 = .ok (.istore 4, 2) := by decide +kernel
theorem dX8_which_31 : decode cX8_which 31 = .ok (.iinc 5 1, 3) := by decide +kernel
theorem dX8_which_34 : decode cX8_which 34 = .ok (.goto (-28), 3) := by decide +kernel
theorem dX8_which_37 : decode cX8_which 37 = .ok (.iload 4, 2) := by decide +kernel
theorem dX8_which_39 : decode cX8_which 39 = .ok (.ireturn, 1) := by decide +kernel
set_option maxRecDepth 20000 in
theorem ggX8_kinds_X8_isOne : GoodIn wsX8_kinds wsX8_isOne := goodIn_r _ [5, 6, 7, 8, 4, 9, 68, 69, 70, 71, 72, 73, 74, 75, 76, 77, 78, 79, 80, 81, 82, 83, 84, 85, 86, 87, 88, 89, 90, 91, 92, 93, 94, 95, 96, 97] (by decide +kernel) (by decide +kernel)
set_option maxRecDepth 20000 in
theorem gX8_kinds_X8_isOne : GoodIn wsX8_kinds (wsV RX8 145 RX8 yX8_isOne wsX8_isOne) := goodIn_app (goodIn_of _ (by decide +kernel)) ggX8_kinds_X8_isOne
set_option maxRecDepth 20000 in
theorem ggX8_kinds_X8_which : GoodIn wsX8_kinds wsX8_which := goodIn_r _ [13, 14, 15, 16, 4, 17, 18, 19, 20, 21, 22, 23, 24, 25, 26, 27, 28, 29, 30, 31, 32, 6, 33, 34, 35, 36, 37, 38, 39, 40, 41, 42, 43, 44, 45, 46, 47, 48, 49, 50, 51, 52, 53, 54, 55, 56, 57, 58, 59, 60, 61, 62, 63, 64, 65, 66, 67, 68, 69, 70, 71, 72, 73, 74, 75, 76, 77, 78, 79, 80, 81, 82, 83, 84, 85, 86, 87, 88, 89, 90, 91, 92, 93, 94, 95, 96, 97] (by decide +kernel) (by decide +kernel)
set_option maxRecDepth 20000 in
theorem gX8_kinds_X8_which : GoodIn wsX8_kinds (wsV RX8 295 RX8 yX8_which wsX8_which) := goodIn_app (goodIn_of _ (by decide +kernel)) ggX8_kinds_X8_which
theorem dX8_kinds_0 : decode cX8_kinds 0 = .ok (.aload_n 0, 1) := by decide +kernel
theorem dX8_kinds_1 : decode cX8_kinds 1 = .ok (.iload_n 1, 1) := by decide +kernel
theorem dX8_kinds_2 : decode cX8_kinds 2 = .ok (.invokevirtual 145, 3) := by decide +kernel
theorem dX8_kinds_5 : decode cX8_kinds 5 = .ok (.ifCond .eq 13, 3) := by decide +kernel
theorem dX8_kinds_8 : decode cX8_kinds 8 = .ok (.aload_n 0, 1) := by decide +kernel
theorem dX8_kinds_9 : decode cX8_kinds 9 = .ok (.iload_n 1, 1) := by decide +kernel
theorem dX8_kinds_10 : decode cX8_kinds 10 = .ok (.iconst 0, 1) := by decide +kernel
theorem dX8_kinds_11 : decode cX8_kinds 11 = .ok (.iconst 3, 1) := by decide +kernel
theorem dX8_kinds_12 : decode cX8_kinds 12 = .ok (.invokevirtual 295, 3) := by decide +kernel
theorem dX8_kinds_15 : decode cX8_kinds 15 = .ok (.goto 4, 3) := by decide +kernel
theorem dX8_kinds_18 : decode cX8_kinds 18 = .ok (.iconst (-1), 1) := by decide +kernel
theorem dX8_kinds_19 : decode cX8_kinds 19 = .ok (.ireturn, 1) := by decide +kernel
set_option maxRecDepth 20000 in
theorem ggX8_earns_X8_isOne : GoodIn wsX8_earns wsX8_isOne := goodIn_r _ [5, 6, 7, 8, 4, 9, 68, 69, 70, 71, 72, 73, 74, 75, 76, 77, 78, 79, 80, 81, 82, 83, 84, 85, 86, 87, 88, 89, 90, 91, 92, 93, 94, 95, 96, 97] (by decide +kernel) (by decide +kernel)
set_option maxRecDepth 20000 in
theorem gX8_earns_X8_isOne : GoodIn wsX8_earns (wsV RX8 145 RX8 yX8_isOne wsX8_isOne) := goodIn_app (goodIn_of _ (by decide +kernel)) ggX8_earns_X8_isOne
set_option maxRecDepth 20000 in
theorem ggX8_earns_X8_which : GoodIn wsX8_earns wsX8_which := goodIn_r _ [13, 14, 15, 16, 4, 17, 18, 19, 20, 21, 22, 23, 24, 25, 26, 27, 28, 29, 30, 31, 32, 6, 33, 34, 35, 36, 37, 38, 39, 40, 41, 42, 43, 44, 45, 46, 47, 48, 49, 50, 51, 52, 53, 54, 55, 56, 57, 58, 59, 60, 61, 62, 63, 64, 65, 66, 67, 68, 69, 70, 71, 72, 73, 74, 75, 76, 77, 78, 79, 80, 81, 82, 83, 84, 85, 86, 87, 88, 89, 90, 91, 92, 93, 94, 95, 96, 97] (by decide +kernel) (by decide +kernel)
set_option maxRecDepth 20000 in
theorem gX8_earns_X8_which : GoodIn wsX8_earns (wsV RX8 295 RX8 yX8_which wsX8_which) := goodIn_app (goodIn_of _ (by decide +kernel)) ggX8_earns_X8_which
theorem dX8_earns_0 : decode cX8_earns 0 = .ok (.aload_n 0, 1) := by decide +kernel
theorem dX8_earns_1 : decode cX8_earns 1 = .ok (.iload_n 1, 1) := by decide +kernel
theorem dX8_earns_2 : decode cX8_earns 2 = .ok (.invokevirtual 145, 3) := by decide +kernel
theorem dX8_earns_5 : decode cX8_earns 5 = .ok (.ifCond .eq 14, 3) := by decide +kernel
theorem dX8_earns_8 : decode cX8_earns 8 = .ok (.aload_n 0, 1) := by decide +kernel
theorem dX8_earns_9 : decode cX8_earns 9 = .ok (.iload_n 1, 1) := by decide +kernel
theorem dX8_earns_10 : decode cX8_earns 10 = .ok (.iconst 2, 1) := by decide +kernel
theorem dX8_earns_11 : decode cX8_earns 11 = .ok (.bipush 9, 2) := by decide +kernel
theorem dX8_earns_13 : decode cX8_earns 13 = .ok (.invokevirtual 295, 3) := by decide +kernel
theorem dX8_earns_16 : decode cX8_earns 16 = .ok (.goto 4, 3) := by decide +kernel
theorem dX8_earns_19 : decode cX8_earns 19 = .ok (.iconst (-1), 1) := by decide +kernel
theorem dX8_earns_20 : decode cX8_earns 20 = .ok (.ireturn, 1) := by decide +kernel
set_option maxRecDepth 20000 in
theorem ggX8_ask_X8_isOne : GoodIn wsX8_ask wsX8_isOne := goodIn_r _ [7, 8, 9, 10, 6, 11, 68, 69, 70, 71, 72, 73, 74, 75, 76, 77, 78, 79, 80, 81, 82, 83, 84, 85, 86, 87, 88, 89, 90, 91, 92, 93, 94, 95, 96, 97] (by decide +kernel) (by decide +kernel)
set_option maxRecDepth 20000 in
theorem gX8_ask_X8_isOne : GoodIn wsX8_ask (wsV RX8 145 RX8 yX8_isOne wsX8_isOne) := goodIn_app (goodIn_of _ (by decide +kernel)) ggX8_ask_X8_isOne
set_option maxRecDepth 20000 in
theorem ggX8_ask_X8_isPart : GoodIn wsX8_ask wsX8_isPart := goodIn_r _ [14, 9, 10, 6, 11] (by decide +kernel) (by decide +kernel)
set_option maxRecDepth 20000 in
theorem gX8_ask_X8_isPart : GoodIn wsX8_ask (va_wsS RX8 248 yX8_isPart wsX8_isPart) := goodIn_app (goodIn_of _ (by decide +kernel)) ggX8_ask_X8_isPart
set_option maxRecDepth 20000 in
theorem ggX8_ask_X8_isSoWith : GoodIn wsX8_ask wsX8_isSoWith := goodIn_r _ [18, 2, 19, 20, 21, 22, 6, 23, 24, 25, 26, 27, 28, 29, 30, 31, 32, 8, 33, 34, 35, 36, 37, 38, 39, 40, 41, 42, 43, 44, 45, 46, 47, 48, 49, 50, 51, 52, 53, 54, 55, 56, 57, 58, 59, 60, 61, 62, 63, 64, 65, 66, 67, 68, 69, 70, 71, 72, 73, 74, 75, 76, 77, 78, 79, 80, 81, 82, 83, 84, 85, 86, 87, 88, 89, 90, 91, 92, 93, 94, 95, 96, 97] (by decide +kernel) (by decide +kernel)
set_option maxRecDepth 20000 in
theorem gX8_ask_X8_isSoWith : GoodIn wsX8_ask (wsV RX8 292 RX8 yX8_isSoWith wsX8_isSoWith) := goodIn_app (goodIn_of _ (by decide +kernel)) ggX8_ask_X8_isSoWith
set_option maxRecDepth 20000 in
theorem ggX8_ask_X8_lesser : GoodIn wsX8_ask wsX8_lesser := goodIn_r _ [59] (by decide +kernel) (by decide +kernel)
set_option maxRecDepth 20000 in
theorem gX8_ask_X8_lesser : GoodIn wsX8_ask (va_wsS RX8 161 yX8_lesser wsX8_lesser) := goodIn_app (goodIn_of _ (by decide +kernel)) ggX8_ask_X8_lesser
theorem dX8_ask_0 : decode cX8_ask 0 = .ok (.aload_n 0, 1) := by decide +kernel
theorem dX8_ask_1 : decode cX8_ask 1 = .ok (.iload_n 1, 1) := by decide +kernel
theorem dX8_ask_2 : decode cX8_ask 2 = .ok (.invokevirtual 145, 3) := by decide +kernel
theorem dX8_ask_5 : decode cX8_ask 5 = .ok (.ifCond .eq 10, 3) := by decide +kernel
theorem dX8_ask_8 : decode cX8_ask 8 = .ok (.iload_n 2, 1) := by decide +kernel
theorem dX8_ask_9 : decode cX8_ask 9 = .ok (.invokestatic 248, 3) := by decide +kernel
theorem dX8_ask_12 : decode cX8_ask 12 = .ok (.ifCond .ne 5, 3) := by decide +kernel
theorem dX8_ask_15 : decode cX8_ask 15 = .ok (.iconst (-1), 1) := by decide +kernel
theorem dX8_ask_16 : decode cX8_ask 16 = .ok (.ireturn, 1) := by decide +kernel
theorem dX8_ask_17 : decode cX8_ask 17 = .ok (.iconst 0, 1) := by decide +kernel
theorem dX8_ask_18 : decode cX8_ask 18 = .ok (.istore_n 3, 1) := by decide +kernel
theorem dX8_ask_19 : decode cX8_ask 19 = .ok (.iconst 0, 1) := by decide +kernel
theorem dX8_ask_20 : decode cX8_ask 20 = .ok (.istore 4, 2) := by decide +kernel
theorem dX8_ask_22 : decode cX8_ask 22 = .ok (.iload 4, 2) := by decide +kernel
theorem dX8_ask_24 : decode cX8_ask 24 = .ok (.bipush 30, 2) := by decide +kernel
theorem dX8_ask_26 : decode cX8_ask 26 = .ok (.if_icmp .gt 17, 3) := by decide +kernel
theorem dX8_ask_29 : decode cX8_ask 29 = .ok (.aload_n 0, 1) := by decide +kernel
theorem dX8_ask_30 : decode cX8_ask 30 = .ok (.getfield 32, 3) := by decide +kernel
theorem dX8_ask_33 : decode cX8_ask 33 = .ok (.iload 4, 2) := by decide +kernel
theorem dX8_ask_35 : decode cX8_ask 35 = .ok (.iconst 0, 1) := by decide +kernel
theorem dX8_ask_36 : decode cX8_ask 36 = .ok (.iastore, 1) := by decide +kernel
theorem dX8_ask_37 : decode cX8_ask 37 = .ok (.iinc 4 1, 3) := by decide +kernel
theorem dX8_ask_40 : decode cX8_ask 40 = .ok (.goto (-18), 3) := by decide +kernel
theorem dX8_ask_43 : decode cX8_ask 43 = .ok (.iconst 0, 1) := by decide +kernel
theorem dX8_ask_44 : decode cX8_ask 44 = .ok (.istore 4, 2) := by decide +kernel
theorem dX8_ask_46 : decode cX8_ask 46 = .ok (.iload 4, 2) := by decide +kernel
theorem dX8_ask_48 : decode cX8_ask 48 = .ok (.bipush 9, 2) := by decide +kernel
theorem dX8_ask_50 : decode cX8_ask 50 = .ok (.if_icmp .gt 60, 3) := by decide +kernel
theorem dX8_ask_53 : decode cX8_ask 53 = .ok (.aload_n 0, 1) := by decide +kernel
theorem dX8_ask_54 : decode cX8_ask 54 = .ok (.iload_n 1, 1) := by decide +kernel
theorem dX8_ask_55 : decode cX8_ask 55 = .ok (.iconst 2, 1) := by decide +kernel
theorem dX8_ask_56 : decode cX8_ask 56 = .ok (.iload 4, 2) := by decide +kernel
theorem dX8_ask_58 : decode cX8_ask 58 = .ok (.invokevirtual 292, 3) := by decide +kernel
theorem dX8_ask_61 : decode cX8_ask 61 = .ok (.ifCond .eq 43, 3) := by decide +kernel
theorem dX8_ask_64 : decode cX8_ask 64 = .ok (.iinc 3 1, 3) := by decide +kernel
theorem dX8_ask_67 : decode cX8_ask 67 = .ok (.iconst 0, 1) := by decide +kernel
theorem dX8_ask_68 : decode cX8_ask 68 = .ok (.istore 5, 2) := by decide +kernel
theorem dX8_ask_70 : decode cX8_ask 70 = .ok (.iload 5, 2) := by decide +kernel
theorem dX8_ask_72 : decode cX8_ask 72 = .ok (.bipush 30, 2) := by decide +kernel
theorem dX8_ask_74 : decode cX8_ask 74 = .ok (.if_icmp .gt 30, 3) := by decide +kernel
theorem dX8_ask_77 : decode cX8_ask 77 = .ok (.aload_n 0, 1) := by decide +kernel
theorem dX8_ask_78 : decode cX8_ask 78 = .ok (.getfield 32, 3) := by decide +kernel
theorem dX8_ask_81 : decode cX8_ask 81 = .ok (.iload 5, 2) := by decide +kernel
theorem dX8_ask_83 : decode cX8_ask 83 = .ok (.dup2, 1) := by decide +kernel
theorem dX8_ask_84 : decode cX8_ask 84 = .ok (.iaload, 1) := by decide +kernel
theorem dX8_ask_85 : decode cX8_ask 85 = .ok (.aload_n 0, 1) := by decide +kernel
theorem dX8_ask_86 : decode cX8_ask 86 = .ok (.getfield 29, 3) := by decide +kernel
theorem dX8_ask_89 : decode cX8_ask 89 = .ok (.iload 5, 2) := by decide +kernel
theorem dX8_ask_91 : decode cX8_ask 91 = .ok (.iaload, 1) := by decide +kernel
theorem dX8_ask_92 : decode cX8_ask 92 = .ok (.iload_n 1, 1) := by decide +kernel
theorem dX8_ask_93 : decode cX8_ask 93 = .ok (.ishr, 1) := by decide +kernel
theorem dX8_ask_94 : decode cX8_ask 94 = .ok (.iconst 1, 1) := by decide +kernel
theorem dX8_ask_95 : decode cX8_ask 95 = .ok (.iand, 1) := by decide +kernel
theorem dX8_ask_96 : decode cX8_ask 96 = .ok (.iadd, 1) := by decide +kernel
theorem dX8_ask_97 : decode cX8_ask 97 = .ok (.iastore, 1) := by decide +kernel
theorem dX8_ask_98 : decode cX8_ask 98 = .ok (.iinc 5 1, 3) := by decide +kernel
theorem dX8_ask_101 : decode cX8_ask 101 = .ok (.goto (-31), 3) := by decide +kernel
theorem dX8_ask_104 : decode cX8_ask 104 = .ok (.iinc 4 1, 3) := by decide +kernel
theorem dX8_ask_107 : decode cX8_ask 107 = .ok (.goto (-61), 3) := by decide +kernel
theorem dX8_ask_110 : decode cX8_ask 110 = .ok (.iload_n 3, 1) := by decide +kernel
theorem dX8_ask_111 : decode cX8_ask 111 = .ok (.istore 4, 2) := by decide +kernel
theorem dX8_ask_113 : decode cX8_ask 113 = .ok (.bipush (-4), 2) := by decide +kernel
theorem dX8_ask_115 : decode cX8_ask 115 = .ok (.istore 5, 2) := by decide +kernel
theorem dX8_ask_117 : decode cX8_ask 117 = .ok (.iconst 0, 1) := by decide +kernel
theorem dX8_ask_118 : decode cX8_ask 118 = .ok (.istore 6, 2) := by decide +kernel
theorem dX8_ask_120 : decode cX8_ask 120 = .ok (.iload 6, 2) := by decide +kernel
theorem dX8_ask_122 : decode cX8_ask 122 = .ok (.bipush 30, 2) := by decide +kernel
theorem dX8_ask_124 : decode cX8_ask 124 = .ok (.if_icmp .gt 74, 3) := by decide +kernel
theorem dX8_ask_127 : decode cX8_ask 127 = .ok (.aload_n 0, 1) := by decide +kernel
theorem dX8_ask_128 : decode cX8_ask 128 = .ok (.getfield 32, 3) := by decide +kernel
theorem dX8_ask_131 : decode cX8_ask 131 = .ok (.iload 6, 2) := by decide +kernel
theorem dX8_ask_133 : decode cX8_ask 133 = .ok (.iaload, 1) := by decide +kernel
theorem dX8_ask_134 : decode cX8_ask 134 = .ok (.iload_n 3, 1) := by decide +kernel
theorem dX8_ask_135 : decode cX8_ask 135 = .ok (.aload_n 0, 1) := by decide +kernel
theorem dX8_ask_136 : decode cX8_ask 136 = .ok (.getfield 32, 3) := by decide +kernel
theorem dX8_ask_139 : decode cX8_ask 139 = .ok (.iload 6, 2) := by decide +kernel
theorem dX8_ask_141 : decode cX8_ask 141 = .ok (.iaload, 1) := by decide +kernel
theorem dX8_ask_142 : decode cX8_ask 142 = .ok (.isub, 1) := by decide +kernel
theorem dX8_ask_143 : decode cX8_ask 143 = .ok (.if_icmp .le 13, 3) := by decide +kernel
theorem dX8_ask_146 : decode cX8_ask 146 = .ok (.aload_n 0, 1) := by decide +kernel
theorem dX8_ask_147 : decode cX8_ask 147 = .ok (.getfield 32, 3) := by decide +kernel
theorem dX8_ask_150 : decode cX8_ask 150 = .ok (.iload 6, 2) := by decide +kernel
theorem dX8_ask_152 : decode cX8_ask 152 = .ok (.iaload, 1) := by decide +kernel
theorem dX8_ask_153 : decode cX8_ask 153 = .ok (.goto 12, 3) := by decide +kernel
theorem dX8_ask_156 : decode cX8_ask 156 = .ok (.iload_n 3, 1) := by decide +kernel
theorem dX8_ask_157 : decode cX8_ask 157 = .ok (.aload_n 0, 1) := by decide +kernel
theorem dX8_ask_158 : decode cX8_ask 158 = .ok (.getfield 32, 3) := by decide +kernel
theorem dX8_ask_161 : decode cX8_ask 161 = .ok (.iload 6, 2) := by decide +kernel
theorem dX8_ask_163 : decode cX8_ask 163 = .ok (.iaload, 1) := by decide +kernel
theorem dX8_ask_164 : decode cX8_ask 164 = .ok (.isub, 1) := by decide +kernel
theorem dX8_ask_165 : decode cX8_ask 165 = .ok (.istore 7, 2) := by decide +kernel
theorem dX8_ask_167 : decode cX8_ask 167 = .ok (.iload 7, 2) := by decide +kernel
theorem dX8_ask_169 : decode cX8_ask 169 = .ok (.iload 4, 2) := by decide +kernel
theorem dX8_ask_171 : decode cX8_ask 171 = .ok (.if_icmp .ge 8, 3) := by decide +kernel
theorem dX8_ask_174 : decode cX8_ask 174 = .ok (.iload 6, 2) := by decide +kernel
theorem dX8_ask_176 : decode cX8_ask 176 = .ok (.goto 5, 3) := by decide +kernel
theorem dX8_ask_179 : decode cX8_ask 179 = .ok (.iload 5, 2) := by decide +kernel
theorem dX8_ask_181 : decode cX8_ask 181 = .ok (.istore 5, 2) := by decide +kernel
theorem dX8_ask_183 : decode cX8_ask 183 = .ok (.iload 7, 2) := by decide +kernel
theorem dX8_ask_185 : decode cX8_ask 185 = .ok (.iload 4, 2) := by decide +kernel
theorem dX8_ask_187 : decode cX8_ask 187 = .ok (.invokestatic 161, 3) := by decide +kernel
theorem dX8_ask_190 : decode cX8_ask 190 = .ok (.istore 4, 2) := by decide +kernel
theorem dX8_ask_192 : decode cX8_ask 192 = .ok (.iinc 6 1, 3) := by decide +kernel
theorem dX8_ask_195 : decode cX8_ask 195 = .ok (.goto (-75), 3) := by decide +kernel
theorem dX8_ask_198 : decode cX8_ask 198 = .ok (.iload 5, 2) := by decide +kernel
theorem dX8_ask_200 : decode cX8_ask 200 = .ok (.bipush (-4), 2) := by decide +kernel
theorem dX8_ask_202 : decode cX8_ask 202 = .ok (.if_icmp .ne 8, 3) := by decide +kernel
theorem dX8_ask_205 : decode cX8_ask 205 = .ok (.bipush (-4), 2) := by decide +kernel
theorem dX8_ask_207 : decode cX8_ask 207 = .ok (.goto 14, 3) := by decide +kernel
theorem dX8_ask_210 : decode cX8_ask 210 = .ok (.iload_n 2, 1) := by decide +kernel
theorem dX8_ask_211 : decode cX8_ask 211 = .ok (.ifCond .ne 8, 3) := by decide +kernel
theorem dX8_ask_214 : decode cX8_ask 214 = .ok (.iload 5, 2) := by decide +kernel
theorem dX8_ask_216 : decode cX8_ask 216 = .ok (.goto 5, 3) := by decide +kernel
theorem dX8_ask_219 : decode cX8_ask 219 = .ok (.iload 4, 2) := by decide +kernel
theorem dX8_ask_221 : decode cX8_ask 221 = .ok (.ireturn, 1) := by decide +kernel
set_option maxRecDepth 20000 in
theorem ggX8_drift_X8_in : GoodIn wsX8_drift wsX8_in := goodIn_r _ [7] (by decide +kernel) (by decide +kernel)
set_option maxRecDepth 20000 in
theorem gX8_drift_X8_in : GoodIn wsX8_drift (va_wsS RX8 72 yX8_in wsX8_in) := goodIn_app (goodIn_of _ (by decide +kernel)) ggX8_drift_X8_in
set_option maxRecDepth 20000 in
theorem ggX8_drift_X8_isPart : GoodIn wsX8_drift wsX8_isPart := goodIn_r _ [10, 4, 5, 6, 7] (by decide +kernel) (by decide +kernel)
set_option maxRecDepth 20000 in
theorem gX8_drift_X8_isPart : GoodIn wsX8_drift (va_wsS RX8 248 yX8_isPart wsX8_isPart) := goodIn_app (goodIn_of _ (by decide +kernel)) ggX8_drift_X8_isPart
set_option maxRecDepth 20000 in
theorem ggX8_drift_X8_starts : GoodIn wsX8_drift wsX8_starts := goodIn_r _ [14, 15, 16, 68, 69, 70, 71, 72, 73, 74, 75, 76, 77, 78, 79, 80, 81, 82, 83, 84, 85, 86, 87, 88, 89, 90, 91, 92, 93, 94, 95, 96, 97] (by decide +kernel) (by decide +kernel)
set_option maxRecDepth 20000 in
theorem gX8_drift_X8_starts : GoodIn wsX8_drift (wsV RX8 188 RX8 yX8_starts wsX8_starts) := goodIn_app (goodIn_of _ (by decide +kernel)) ggX8_drift_X8_starts
set_option maxRecDepth 20000 in
theorem ggX8_drift_X8_lendsNow : GoodIn wsX8_drift wsX8_lendsNow := goodIn_r _ [20, 15, 21, 22, 23, 6, 24, 25, 26, 27, 28, 29, 30, 31, 32, 33, 34, 35, 36, 37, 38, 39, 68, 69, 70, 71, 72, 73, 74, 75, 76, 77, 78, 79, 80, 81, 82, 83, 84, 85, 86, 87, 88, 89, 90, 91, 92, 93, 94, 95, 96, 97] (by decide +kernel) (by decide +kernel)
set_option maxRecDepth 20000 in
theorem gX8_drift_X8_lendsNow : GoodIn wsX8_drift (wsV RX8 218 RX8 yX8_lendsNow wsX8_lendsNow) := goodIn_app (goodIn_of _ (by decide +kernel)) ggX8_drift_X8_lendsNow
set_option maxRecDepth 20000 in
theorem ggX8_drift_X8_dayGoes : GoodIn wsX8_drift wsX8_dayGoes := goodIn_r _ [43, 2, 15, 44, 21, 22, 23, 6, 24, 33, 34, 35, 36, 37, 38, 39, 29, 30, 31, 32, 45, 46, 47, 48, 49, 50, 51, 52, 25, 26, 27, 28, 53, 54, 55, 56, 68, 69, 70, 71, 72, 73, 74, 75, 76, 77, 78, 79, 80, 81, 82, 83, 84, 85, 86, 87, 88, 89, 90, 91, 92, 93, 94, 95, 96, 97] (by decide +kernel) (by decide +kernel)
set_option maxRecDepth 20000 in
theorem gX8_drift_X8_dayGoes : GoodIn wsX8_drift (wsV RX8 181 RX8 yX8_dayGoes wsX8_dayGoes) := goodIn_app (goodIn_of _ (by decide +kernel)) ggX8_drift_X8_dayGoes
set_option maxRecDepth 20000 in
theorem ggX8_drift_X8_allOwed : GoodIn wsX8_drift wsX8_allOwed := goodIn_r _ [60, 2, 49, 50, 51, 6, 52, 25, 26, 27, 28, 15, 68, 69, 70, 71, 72, 73, 74, 75, 76, 77, 78, 79, 80, 81, 82, 83, 84, 85, 86, 87, 88, 89, 90, 91, 92, 93, 94, 95, 96, 97] (by decide +kernel) (by decide +kernel)
set_option maxRecDepth 20000 in
theorem gX8_drift_X8_allOwed : GoodIn wsX8_drift (wsV RX8 194 RX8 yX8_allOwed wsX8_allOwed) := goodIn_app (goodIn_of _ (by decide +kernel)) ggX8_drift_X8_allOwed
set_option maxRecDepth 20000 in
theorem ggX8_drift_X8_riding : GoodIn wsX8_drift wsX8_riding := goodIn_r _ [64, 2, 49, 50, 51, 6, 52, 25, 26, 27, 28, 15, 65, 66, 67, 68, 69, 70, 71, 72, 73, 74, 75, 76, 77, 78, 79, 80, 81, 82, 83, 84, 85, 86, 87, 88, 89, 90, 91, 92, 93, 94, 95, 96, 97] (by decide +kernel) (by decide +kernel)
set_option maxRecDepth 20000 in
theorem gX8_drift_X8_riding : GoodIn wsX8_drift (wsV RX8 191 RX8 yX8_riding wsX8_riding) := goodIn_app (goodIn_of _ (by decide +kernel)) ggX8_drift_X8_riding
theorem dX8_drift_0 : decode cX8_drift 0 = .ok (.iload_n 2, 1) := by decide +kernel
theorem dX8_drift_1 : decode cX8_drift 1 = .ok (.i2l, 1) := by decide +kernel
theorem dX8_drift_2 : decode cX8_drift 2 = .ok (.lconst 1, 1) := by decide +kernel
theorem dX8_drift_3 : decode cX8_drift 3 = .ok (.ldc2_w 229, 3) := by decide +kernel
theorem dX8_drift_6 : decode cX8_drift 6 = .ok (.invokestatic 72, 3) := by decide +kernel
theorem dX8_drift_9 : decode cX8_drift 9 = .ok (.ifCond .eq 10, 3) := by decide +kernel
theorem dX8_drift_12 : decode cX8_drift 12 = .ok (.iload_n 3, 1) := by decide +kernel
theorem dX8_drift_13 : decode cX8_drift 13 = .ok (.invokestatic 248, 3) := by decide +kernel
theorem dX8_drift_16 : decode cX8_drift 16 = .ok (.ifCond .ne 5, 3) := by decide +kernel
theorem dX8_drift_19 : decode cX8_drift 19 = .ok (.iconst (-1), 1) := by decide +kernel
theorem dX8_drift_20 : decode cX8_drift 20 = .ok (.ireturn, 1) := by decide +kernel
theorem dX8_drift_21 : decode cX8_drift 21 = .ok (.aload_n 0, 1) := by decide +kernel
theorem dX8_drift_22 : decode cX8_drift 22 = .ok (.getfield 67, 3) := by decide +kernel
theorem dX8_drift_25 : decode cX8_drift 25 = .ok (.ifCond .ne 6, 3) := by decide +kernel
theorem dX8_drift_28 : decode cX8_drift 28 = .ok (.bipush (-2), 2) := by decide +kernel
theorem dX8_drift_30 : decode cX8_drift 30 = .ok (.ireturn, 1) := by decide +kernel
theorem dX8_drift_31 : decode cX8_drift 31 = .ok (.iload_n 1, 1) := by decide +kernel
theorem dX8_drift_32 : decode cX8_drift 32 = .ok (.istore 4, 2) := by decide +kernel
theorem dX8_drift_34 : decode cX8_drift 34 = .ok (.aload_n 0, 1) := by decide +kernel
theorem dX8_drift_35 : decode cX8_drift 35 = .ok (.invokevirtual 188, 3) := by decide +kernel
theorem dX8_drift_38 : decode cX8_drift 38 = .ok (.iconst 0, 1) := by decide +kernel
theorem dX8_drift_39 : decode cX8_drift 39 = .ok (.istore 5, 2) := by decide +kernel
theorem dX8_drift_41 : decode cX8_drift 41 = .ok (.iload 5, 2) := by decide +kernel
theorem dX8_drift_43 : decode cX8_drift 43 = .ok (.iload_n 2, 1) := by decide +kernel
theorem dX8_drift_44 : decode cX8_drift 44 = .ok (.if_icmp .ge 68, 3) := by decide +kernel
theorem dX8_drift_47 : decode cX8_drift 47 = .ok (.iload 4, 2) := by decide +kernel
theorem dX8_drift_49 : decode cX8_drift 49 = .ok (.ldc_w 299, 3) := by decide +kernel
theorem dX8_drift_52 : decode cX8_drift 52 = .ok (.imul, 1) := by decide +kernel
theorem dX8_drift_53 : decode cX8_drift 53 = .ok (.sipush 12345, 3) := by decide +kernel
theorem dX8_drift_56 : decode cX8_drift 56 = .ok (.iadd, 1) := by decide +kernel
theorem dX8_drift_57 : decode cX8_drift 57 = .ok (.istore 4, 2) := by decide +kernel
theorem dX8_drift_59 : decode cX8_drift 59 = .ok (.iload 4, 2) := by decide +kernel
theorem dX8_drift_61 : decode cX8_drift 61 = .ok (.bipush 16, 2) := by decide +kernel
theorem dX8_drift_63 : decode cX8_drift 63 = .ok (.ishr, 1) := by decide +kernel
theorem dX8_drift_64 : decode cX8_drift 64 = .ok (.sipush 32767, 3) := by decide +kernel
theorem dX8_drift_67 : decode cX8_drift 67 = .ok (.iand, 1) := by decide +kernel
theorem dX8_drift_68 : decode cX8_drift 68 = .ok (.istore 6, 2) := by decide +kernel
theorem dX8_drift_70 : decode cX8_drift 70 = .ok (.aload_n 0, 1) := by decide +kernel
theorem dX8_drift_71 : decode cX8_drift 71 = .ok (.iload 6, 2) := by decide +kernel
theorem dX8_drift_73 : decode cX8_drift 73 = .ok (.aload_n 0, 1) := by decide +kernel
theorem dX8_drift_74 : decode cX8_drift 74 = .ok (.getfield 67, 3) := by decide +kernel
theorem dX8_drift_77 : decode cX8_drift 77 = .ok (.irem, 1) := by decide +kernel
theorem dX8_drift_78 : decode cX8_drift 78 = .ok (.iload 6, 2) := by decide +kernel
theorem dX8_drift_80 : decode cX8_drift 80 = .ok (.bipush 8, 2) := by decide +kernel
theorem dX8_drift_82 : decode cX8_drift 82 = .ok (.idiv, 1) := by decide +kernel
theorem dX8_drift_83 : decode cX8_drift 83 = .ok (.aload_n 0, 1) := by decide +kernel
theorem dX8_drift_84 : decode cX8_drift 84 = .ok (.getfield 67, 3) := by decide +kernel
theorem dX8_drift_87 : decode cX8_drift 87 = .ok (.irem, 1) := by decide +kernel
theorem dX8_drift_88 : decode cX8_drift 88 = .ok (.iconst 1, 1) := by decide +kernel
theorem dX8_drift_89 : decode cX8_drift 89 = .ok (.iload 6, 2) := by decide +kernel
theorem dX8_drift_91 : decode cX8_drift 91 = .ok (.bipush 64, 2) := by decide +kernel
theorem dX8_drift_93 : decode cX8_drift 93 = .ok (.idiv, 1) := by decide +kernel
theorem dX8_drift_94 : decode cX8_drift 94 = .ok (.bipush 9, 2) := by decide +kernel
theorem dX8_drift_96 : decode cX8_drift 96 = .ok (.irem, 1) := by decide +kernel
theorem dX8_drift_97 : decode cX8_drift 97 = .ok (.iadd, 1) := by decide +kernel
theorem dX8_drift_98 : decode cX8_drift 98 = .ok (.invokevirtual 218, 3) := by decide +kernel
theorem dX8_drift_101 : decode cX8_drift 101 = .ok (.pop, 1) := by decide +kernel
theorem dX8_drift_102 : decode cX8_drift 102 = .ok (.aload_n 0, 1) := by decide +kernel
theorem dX8_drift_103 : decode cX8_drift 103 = .ok (.invokevirtual 181, 3) := by decide +kernel
theorem dX8_drift_106 : decode cX8_drift 106 = .ok (.iinc 5 1, 3) := by decide +kernel
theorem dX8_drift_109 : decode cX8_drift 109 = .ok (.goto (-68), 3) := by decide +kernel
theorem dX8_drift_112 : decode cX8_drift 112 = .ok (.iload_n 3, 1) := by decide +kernel
theorem dX8_drift_113 : decode cX8_drift 113 = .ok (.ifCond .ne 10, 3) := by decide +kernel
theorem dX8_drift_116 : decode cX8_drift 116 = .ok (.aload_n 0, 1) := by decide +kernel
theorem dX8_drift_117 : decode cX8_drift 117 = .ok (.invokevirtual 194, 3) := by decide +kernel
theorem dX8_drift_120 : decode cX8_drift 120 = .ok (.goto 7, 3) := by decide +kernel
theorem dX8_drift_123 : decode cX8_drift 123 = .ok (.aload_n 0, 1) := by decide +kernel
theorem dX8_drift_124 : decode cX8_drift 124 = .ok (.invokevirtual 191, 3) := by decide +kernel
theorem dX8_drift_127 : decode cX8_drift 127 = .ok (.ireturn, 1) := by decide +kernel
theorem dX8_copies_0 : decode cX8_copies 0 = .ok (.iconst 0, 1) := by decide +kernel
theorem dX8_copies_1 : decode cX8_copies 1 = .ok (.istore_n 3, 1) := by decide +kernel
theorem dX8_copies_2 : decode cX8_copies 2 = .ok (.iload_n 3, 1) := by decide +kernel
theorem dX8_copies_3 : decode cX8_copies 3 = .ok (.bipush 61, 2) := by decide +kernel
theorem dX8_copies_5 : decode cX8_copies 5 = .ok (.if_icmp .ge 25, 3) := by decide +kernel
theorem dX8_copies_8 : decode cX8_copies 8 = .ok (.aload_n 0, 1) := by decide +kernel
theorem dX8_copies_9 : decode cX8_copies 9 = .ok (.getfield 7, 3) := by decide +kernel
theorem dX8_copies_12 : decode cX8_copies 12 = .ok (.iload_n 1, 1) := by decide +kernel
theorem dX8_copies_13 : decode cX8_copies 13 = .ok (.iload_n 3, 1) := by decide +kernel
theorem dX8_copies_14 : decode cX8_copies 14 = .ok (.iadd, 1) := by decide +kernel
theorem dX8_copies_15 : decode cX8_copies 15 = .ok (.aload_n 0, 1) := by decide +kernel
theorem dX8_copies_16 : decode cX8_copies 16 = .ok (.getfield 7, 3) := by decide +kernel
theorem dX8_copies_19 : decode cX8_copies 19 = .ok (.iload_n 2, 1) := by decide +kernel
theorem dX8_copies_20 : decode cX8_copies 20 = .ok (.iload_n 3, 1) := by decide +kernel
theorem dX8_copies_21 : decode cX8_copies 21 = .ok (.iadd, 1) := by decide +kernel
theorem dX8_copies_22 : decode cX8_copies 22 = .ok (.iaload, 1) := by decide +kernel
theorem dX8_copies_23 : decode cX8_copies 23 = .ok (.iastore, 1) := by decide +kernel
theorem dX8_copies_24 : decode cX8_copies 24 = .ok (.iinc 3 1, 3) := by decide +kernel
theorem dX8_copies_27 : decode cX8_copies 27 = .ok (.goto (-25), 3) := by decide +kernel
theorem dX8_copies_30 : decode cX8_copies 30 = .ok (.return_, 1) := by decide +kernel
set_option maxRecDepth 20000 in
theorem ggX8_keep_X8_in : GoodIn wsX8_keep wsX8_in := goodIn_r _ [5] (by decide +kernel) (by decide +kernel)
set_option maxRecDepth 20000 in
theorem gX8_keep_X8_in : GoodIn wsX8_keep (va_wsS RX8 72 yX8_in wsX8_in) := goodIn_app (goodIn_of _ (by decide +kernel)) ggX8_keep_X8_in
set_option maxRecDepth 20000 in
theorem ggX8_keep_X8_flag : GoodIn wsX8_keep wsX8_flag := goodIn_r _ [8] (by decide +kernel) (by decide +kernel)
set_option maxRecDepth 20000 in
theorem gX8_keep_X8_flag : GoodIn wsX8_keep (va_wsS RX8 184 yX8_flag wsX8_flag) := goodIn_app (goodIn_of _ (by decide +kernel)) ggX8_keep_X8_flag
set_option maxRecDepth 20000 in
theorem ggX8_keep_X8_copies : GoodIn wsX8_keep wsX8_copies := goodIn_r _ [12, 13, 14, 15, 16, 17, 18, 19, 20, 21, 22, 23, 24, 25, 26, 27, 28, 29, 30, 31, 32, 33, 34, 35, 36, 37, 38, 39, 40, 41, 42, 43] (by decide +kernel) (by decide +kernel)
set_option maxRecDepth 20000 in
theorem gX8_keep_X8_copies : GoodIn wsX8_keep (wsV RX8 300 RX8 yX8_copies wsX8_copies) := goodIn_app (goodIn_of _ (by decide +kernel)) ggX8_keep_X8_copies
theorem dX8_keep_0 : decode cX8_keep 0 = .ok (.iload_n 1, 1) := by decide +kernel
theorem dX8_keep_1 : decode cX8_keep 1 = .ok (.i2l, 1) := by decide +kernel
theorem dX8_keep_2 : decode cX8_keep 2 = .ok (.lconst 0, 1) := by decide +kernel
theorem dX8_keep_3 : decode cX8_keep 3 = .ok (.lconst 1, 1) := by decide +kernel
theorem dX8_keep_4 : decode cX8_keep 4 = .ok (.invokestatic 72, 3) := by decide +kernel
theorem dX8_keep_7 : decode cX8_keep 7 = .ok (.ifCond .ne 5, 3) := by decide +kernel
theorem dX8_keep_10 : decode cX8_keep 10 = .ok (.iconst (-1), 1) := by decide +kernel
theorem dX8_keep_11 : decode cX8_keep 11 = .ok (.ireturn, 1) := by decide +kernel
theorem dX8_keep_12 : decode cX8_keep 12 = .ok (.aload_n 0, 1) := by decide +kernel
theorem dX8_keep_13 : decode cX8_keep 13 = .ok (.getfield 16, 3) := by decide +kernel
theorem dX8_keep_16 : decode cX8_keep 16 = .ok (.iload_n 1, 1) := by decide +kernel
theorem dX8_keep_17 : decode cX8_keep 17 = .ok (.baload, 1) := by decide +kernel
theorem dX8_keep_18 : decode cX8_keep 18 = .ok (.invokestatic 184, 3) := by decide +kernel
theorem dX8_keep_21 : decode cX8_keep 21 = .ok (.istore_n 2, 1) := by decide +kernel
theorem dX8_keep_22 : decode cX8_keep 22 = .ok (.aload_n 0, 1) := by decide +kernel
theorem dX8_keep_23 : decode cX8_keep 23 = .ok (.getfield 16, 3) := by decide +kernel
theorem dX8_keep_26 : decode cX8_keep 26 = .ok (.iload_n 1, 1) := by decide +kernel
theorem dX8_keep_27 : decode cX8_keep 27 = .ok (.iconst 1, 1) := by decide +kernel
theorem dX8_keep_28 : decode cX8_keep 28 = .ok (.bastore, 1) := by decide +kernel
theorem dX8_keep_29 : decode cX8_keep 29 = .ok (.aload_n 0, 1) := by decide +kernel
theorem dX8_keep_30 : decode cX8_keep 30 = .ok (.bipush 61, 2) := by decide +kernel
theorem dX8_keep_32 : decode cX8_keep 32 = .ok (.iload_n 1, 1) := by decide +kernel
theorem dX8_keep_33 : decode cX8_keep 33 = .ok (.iconst 1, 1) := by decide +kernel
theorem dX8_keep_34 : decode cX8_keep 34 = .ok (.iadd, 1) := by decide +kernel
theorem dX8_keep_35 : decode cX8_keep 35 = .ok (.imul, 1) := by decide +kernel
theorem dX8_keep_36 : decode cX8_keep 36 = .ok (.iconst 0, 1) := by decide +kernel
theorem dX8_keep_37 : decode cX8_keep 37 = .ok (.invokevirtual 300, 3) := by decide +kernel
theorem dX8_keep_40 : decode cX8_keep 40 = .ok (.iload_n 2, 1) := by decide +kernel
theorem dX8_keep_41 : decode cX8_keep 41 = .ok (.ireturn, 1) := by decide +kernel
set_option maxRecDepth 20000 in
theorem ggX8_back_X8_in : GoodIn wsX8_back wsX8_in := goodIn_r _ [6] (by decide +kernel) (by decide +kernel)
set_option maxRecDepth 20000 in
theorem gX8_back_X8_in : GoodIn wsX8_back (va_wsS RX8 72 yX8_in wsX8_in) := goodIn_app (goodIn_of _ (by decide +kernel)) ggX8_back_X8_in
set_option maxRecDepth 20000 in
theorem ggX8_back_X8_copies : GoodIn wsX8_back wsX8_copies := goodIn_r _ [10, 2, 11, 12, 13, 14, 15, 16, 17, 18, 19, 20, 21, 22, 23, 24, 25, 26, 27, 28, 29, 30, 31, 32, 33, 34, 35, 36, 37, 38, 39, 40] (by decide +kernel) (by decide +kernel)
set_option maxRecDepth 20000 in
theorem gX8_back_X8_copies : GoodIn wsX8_back (wsV RX8 300 RX8 yX8_copies wsX8_copies) := goodIn_app (goodIn_of _ (by decide +kernel)) ggX8_back_X8_copies
theorem dX8_back_0 : decode cX8_back 0 = .ok (.iload_n 1, 1) := by decide +kernel
theorem dX8_back_1 : decode cX8_back 1 = .ok (.i2l, 1) := by decide +kernel
theorem dX8_back_2 : decode cX8_back 2 = .ok (.lconst 0, 1) := by decide +kernel
theorem dX8_back_3 : decode cX8_back 3 = .ok (.lconst 1, 1) := by decide +kernel
theorem dX8_back_4 : decode cX8_back 4 = .ok (.invokestatic 72, 3) := by decide +kernel
theorem dX8_back_7 : decode cX8_back 7 = .ok (.ifCond .ne 5, 3) := by decide +kernel
theorem dX8_back_10 : decode cX8_back 10 = .ok (.iconst (-1), 1) := by decide +kernel
theorem dX8_back_11 : decode cX8_back 11 = .ok (.ireturn, 1) := by decide +kernel
theorem dX8_back_12 : decode cX8_back 12 = .ok (.aload_n 0, 1) := by decide +kernel
theorem dX8_back_13 : decode cX8_back 13 = .ok (.getfield 16, 3) := by decide +kernel
theorem dX8_back_16 : decode cX8_back 16 = .ok (.iload_n 1, 1) := by decide +kernel
theorem dX8_back_17 : decode cX8_back 17 = .ok (.baload, 1) := by decide +kernel
theorem dX8_back_18 : decode cX8_back 18 = .ok (.ifCond .ne 6, 3) := by decide +kernel
theorem dX8_back_21 : decode cX8_back 21 = .ok (.bipush (-2), 2) := by decide +kernel
theorem dX8_back_23 : decode cX8_back 23 = .ok (.ireturn, 1) := by decide +kernel
theorem dX8_back_24 : decode cX8_back 24 = .ok (.aload_n 0, 1) := by decide +kernel
theorem dX8_back_25 : decode cX8_back 25 = .ok (.iconst 0, 1) := by decide +kernel
theorem dX8_back_26 : decode cX8_back 26 = .ok (.bipush 61, 2) := by decide +kernel
theorem dX8_back_28 : decode cX8_back 28 = .ok (.iload_n 1, 1) := by decide +kernel
theorem dX8_back_29 : decode cX8_back 29 = .ok (.iconst 1, 1) := by decide +kernel
theorem dX8_back_30 : decode cX8_back 30 = .ok (.iadd, 1) := by decide +kernel
theorem dX8_back_31 : decode cX8_back 31 = .ok (.imul, 1) := by decide +kernel
theorem dX8_back_32 : decode cX8_back 32 = .ok (.invokevirtual 300, 3) := by decide +kernel
theorem dX8_back_35 : decode cX8_back 35 = .ok (.aload_n 0, 1) := by decide +kernel
theorem dX8_back_36 : decode cX8_back 36 = .ok (.getfield 7, 3) := by decide +kernel
theorem dX8_back_39 : decode cX8_back 39 = .ok (.bipush 40, 2) := by decide +kernel
theorem dX8_back_41 : decode cX8_back 41 = .ok (.iaload, 1) := by decide +kernel
theorem dX8_back_42 : decode cX8_back 42 = .ok (.ireturn, 1) := by decide +kernel
set_option maxRecDepth 20000 in
theorem ggX8_isSheet_X8_in : GoodIn wsX8_isSheet wsX8_in := goodIn_r _ [6] (by decide +kernel) (by decide +kernel)
set_option maxRecDepth 20000 in
theorem gX8_isSheet_X8_in : GoodIn wsX8_isSheet (va_wsS RX8 72 yX8_in wsX8_in) := goodIn_app (goodIn_of _ (by decide +kernel)) ggX8_isSheet_X8_in
theorem dX8_isSheet_0 : decode cX8_isSheet 0 = .ok (.iload_n 0, 1) := by decide +kernel
theorem dX8_isSheet_1 : decode cX8_isSheet 1 = .ok (.i2l, 1) := by decide +kernel
theorem dX8_isSheet_2 : decode cX8_isSheet 2 = .ok (.lconst 0, 1) := by decide +kernel
theorem dX8_isSheet_3 : decode cX8_isSheet 3 = .ok (.ldc2_w 207, 3) := by decide +kernel
theorem dX8_isSheet_6 : decode cX8_isSheet 6 = .ok (.invokestatic 72, 3) := by decide +kernel
theorem dX8_isSheet_9 : decode cX8_isSheet 9 = .ok (.ifCond .eq 19, 3) := by decide +kernel
theorem dX8_isSheet_12 : decode cX8_isSheet 12 = .ok (.iload_n 1, 1) := by decide +kernel
theorem dX8_isSheet_13 : decode cX8_isSheet 13 = .ok (.i2l, 1) := by decide +kernel
theorem dX8_isSheet_14 : decode cX8_isSheet 14 = .ok (.lconst 0, 1) := by decide +kernel
theorem dX8_isSheet_15 : decode cX8_isSheet 15 = .ok (.ldc2_w 234, 3) := by decide +kernel
theorem dX8_isSheet_18 : decode cX8_isSheet 18 = .ok (.invokestatic 72, 3) := by decide +kernel
theorem dX8_isSheet_21 : decode cX8_isSheet 21 = .ok (.ifCond .eq 7, 3) := by decide +kernel
theorem dX8_isSheet_24 : decode cX8_isSheet 24 = .ok (.iconst 1, 1) := by decide +kernel
theorem dX8_isSheet_25 : decode cX8_isSheet 25 = .ok (.goto 4, 3) := by decide +kernel
theorem dX8_isSheet_28 : decode cX8_isSheet 28 = .ok (.iconst 0, 1) := by decide +kernel
theorem dX8_isSheet_29 : decode cX8_isSheet 29 = .ok (.ireturn, 1) := by decide +kernel
set_option maxRecDepth 20000 in
theorem ggX8_sheet_X8_isSheet : GoodIn wsX8_sheet wsX8_isSheet := goodIn_r _ [7, 8, 9, 10, 11, 6, 12] (by decide +kernel) (by decide +kernel)
set_option maxRecDepth 20000 in
theorem gX8_sheet_X8_isSheet : GoodIn wsX8_sheet (va_wsS RX8 303 yX8_isSheet wsX8_isSheet) := goodIn_app (goodIn_of _ (by decide +kernel)) ggX8_sheet_X8_isSheet
theorem dX8_sheet_0 : decode cX8_sheet 0 = .ok (.iload_n 1, 1) := by decide +kernel
theorem dX8_sheet_1 : decode cX8_sheet 1 = .ok (.iload_n 2, 1) := by decide +kernel
theorem dX8_sheet_2 : decode cX8_sheet 2 = .ok (.invokestatic 303, 3) := by decide +kernel
theorem dX8_sheet_5 : decode cX8_sheet 5 = .ok (.ifCond .eq 9, 3) := by decide +kernel
theorem dX8_sheet_8 : decode cX8_sheet 8 = .ok (.iload_n 3, 1) := by decide +kernel
theorem dX8_sheet_9 : decode cX8_sheet 9 = .ok (.bipush 40, 2) := by decide +kernel
theorem dX8_sheet_11 : decode cX8_sheet 11 = .ok (.if_icmp .le 5, 3) := by decide +kernel
theorem dX8_sheet_14 : decode cX8_sheet 14 = .ok (.iconst (-1), 1) := by decide +kernel
theorem dX8_sheet_15 : decode cX8_sheet 15 = .ok (.ireturn, 1) := by decide +kernel
theorem dX8_sheet_16 : decode cX8_sheet 16 = .ok (.iload_n 3, 1) := by decide +kernel
theorem dX8_sheet_17 : decode cX8_sheet 17 = .ok (.ifCond .ge 6, 3) := by decide +kernel
theorem dX8_sheet_20 : decode cX8_sheet 20 = .ok (.bipush (-14), 2) := by decide +kernel
theorem dX8_sheet_22 : decode cX8_sheet 22 = .ok (.ireturn, 1) := by decide +kernel
theorem dX8_sheet_23 : decode cX8_sheet 23 = .ok (.aload_n 0, 1) := by decide +kernel
theorem dX8_sheet_24 : decode cX8_sheet 24 = .ok (.getfield 35, 3) := by decide +kernel
theorem dX8_sheet_27 : decode cX8_sheet 27 = .ok (.iload_n 1, 1) := by decide +kernel
theorem dX8_sheet_28 : decode cX8_sheet 28 = .ok (.iload_n 2, 1) := by decide +kernel
theorem dX8_sheet_29 : decode cX8_sheet 29 = .ok (.iastore, 1) := by decide +kernel
theorem dX8_sheet_30 : decode cX8_sheet 30 = .ok (.aload_n 0, 1) := by decide +kernel
theorem dX8_sheet_31 : decode cX8_sheet 31 = .ok (.getfield 38, 3) := by decide +kernel
theorem dX8_sheet_34 : decode cX8_sheet 34 = .ok (.iload_n 1, 1) := by decide +kernel
theorem dX8_sheet_35 : decode cX8_sheet 35 = .ok (.iload_n 3, 1) := by decide +kernel
theorem dX8_sheet_36 : decode cX8_sheet 36 = .ok (.iastore, 1) := by decide +kernel
theorem dX8_sheet_37 : decode cX8_sheet 37 = .ok (.iconst 0, 1) := by decide +kernel
theorem dX8_sheet_38 : decode cX8_sheet 38 = .ok (.istore 4, 2) := by decide +kernel
theorem dX8_sheet_40 : decode cX8_sheet 40 = .ok (.iload 4, 2) := by decide +kernel
theorem dX8_sheet_42 : decode cX8_sheet 42 = .ok (.bipush 40, 2) := by decide +kernel
theorem dX8_sheet_44 : decode cX8_sheet 44 = .ok (.if_icmp .ge 22, 3) := by decide +kernel
theorem dX8_sheet_47 : decode cX8_sheet 47 = .ok (.aload_n 0, 1) := by decide +kernel
theorem dX8_sheet_48 : decode cX8_sheet 48 = .ok (.getfield 41, 3) := by decide +kernel
theorem dX8_sheet_51 : decode cX8_sheet 51 = .ok (.bipush 40, 2) := by decide +kernel
theorem dX8_sheet_53 : decode cX8_sheet 53 = .ok (.iload_n 1, 1) := by decide +kernel
theorem dX8_sheet_54 : decode cX8_sheet 54 = .ok (.imul, 1) := by decide +kernel
theorem dX8_sheet_55 : decode cX8_sheet 55 = .ok (.iload 4, 2) := by decide +kernel
theorem dX8_sheet_57 : decode cX8_sheet 57 = .ok (.iadd, 1) := by decide +kernel
theorem dX8_sheet_58 : decode cX8_sheet 58 = .ok (.iconst 0, 1) := by decide +kernel
theorem dX8_sheet_59 : decode cX8_sheet 59 = .ok (.iastore, 1) := by decide +kernel
theorem dX8_sheet_60 : decode cX8_sheet 60 = .ok (.iinc 4 1, 3) := by decide +kernel
theorem dX8_sheet_63 : decode cX8_sheet 63 = .ok (.goto (-23), 3) := by decide +kernel
theorem dX8_sheet_66 : decode cX8_sheet 66 = .ok (.iconst 1, 1) := by decide +kernel
theorem dX8_sheet_67 : decode cX8_sheet 67 = .ok (.ireturn, 1) := by decide +kernel
set_option maxRecDepth 20000 in
theorem ggX8_lay_X8_isSheet : GoodIn wsX8_lay wsX8_isSheet := goodIn_r _ [7, 8, 9, 10, 11, 6, 12] (by decide +kernel) (by decide +kernel)
set_option maxRecDepth 20000 in
theorem gX8_lay_X8_isSheet : GoodIn wsX8_lay (va_wsS RX8 303 yX8_isSheet wsX8_isSheet) := goodIn_app (goodIn_of _ (by decide +kernel)) ggX8_lay_X8_isSheet
set_option maxRecDepth 20000 in
theorem ggX8_lay_X8_in : GoodIn wsX8_lay wsX8_in := goodIn_r _ [12] (by decide +kernel) (by decide +kernel)
set_option maxRecDepth 20000 in
theorem gX8_lay_X8_in : GoodIn wsX8_lay (va_wsS RX8 72 yX8_in wsX8_in) := goodIn_app (goodIn_of _ (by decide +kernel)) ggX8_lay_X8_in
theorem dX8_lay_0 : decode cX8_lay 0 = .ok (.iload_n 1, 1) := by decide +kernel
theorem dX8_lay_1 : decode cX8_lay 1 = .ok (.iconst 0, 1) := by decide +kernel
theorem dX8_lay_2 : decode cX8_lay 2 = .ok (.invokestatic 303, 3) := by decide +kernel
theorem dX8_lay_5 : decode cX8_lay 5 = .ok (.ifCond .ne 5, 3) := by decide +kernel
theorem dX8_lay_8 : decode cX8_lay 8 = .ok (.iconst (-1), 1) := by decide +kernel
theorem dX8_lay_9 : decode cX8_lay 9 = .ok (.ireturn, 1) := by decide +kernel
theorem dX8_lay_10 : decode cX8_lay 10 = .ok (.aload_n 0, 1) := by decide +kernel
theorem dX8_lay_11 : decode cX8_lay 11 = .ok (.getfield 35, 3) := by decide +kernel
theorem dX8_lay_14 : decode cX8_lay 14 = .ok (.iload_n 1, 1) := by decide +kernel
theorem dX8_lay_15 : decode cX8_lay 15 = .ok (.iaload, 1) := by decide +kernel
theorem dX8_lay_16 : decode cX8_lay 16 = .ok (.bipush (-4), 2) := by decide +kernel
theorem dX8_lay_18 : decode cX8_lay 18 = .ok (.if_icmp .ne 6, 3) := by decide +kernel
theorem dX8_lay_21 : decode cX8_lay 21 = .ok (.bipush (-11), 2) := by decide +kernel
theorem dX8_lay_23 : decode cX8_lay 23 = .ok (.ireturn, 1) := by decide +kernel
theorem dX8_lay_24 : decode cX8_lay 24 = .ok (.iload_n 2, 1) := by decide +kernel
theorem dX8_lay_25 : decode cX8_lay 25 = .ok (.i2l, 1) := by decide +kernel
theorem dX8_lay_26 : decode cX8_lay 26 = .ok (.lconst 0, 1) := by decide +kernel
theorem dX8_lay_27 : decode cX8_lay 27 = .ok (.aload_n 0, 1) := by decide +kernel
theorem dX8_lay_28 : decode cX8_lay 28 = .ok (.getfield 38, 3) := by decide +kernel
theorem dX8_lay_31 : decode cX8_lay 31 = .ok (.iload_n 1, 1) := by decide +kernel
theorem dX8_lay_32 : decode cX8_lay 32 = .ok (.iaload, 1) := by decide +kernel
theorem dX8_lay_33 : decode cX8_lay 33 = .ok (.iconst 1, 1) := by decide +kernel
theorem dX8_lay_34 : decode cX8_lay 34 = .ok (.isub, 1) := by decide +kernel
theorem dX8_lay_35 : decode cX8_lay 35 = .ok (.i2l, 1) := by decide +kernel
theorem dX8_lay_36 : decode cX8_lay 36 = .ok (.invokestatic 72, 3) := by decide +kernel
theorem dX8_lay_39 : decode cX8_lay 39 = .ok (.ifCond .ne 6, 3) := by decide +kernel
theorem dX8_lay_42 : decode cX8_lay 42 = .ok (.bipush (-12), 2) := by decide +kernel
theorem dX8_lay_44 : decode cX8_lay 44 = .ok (.ireturn, 1) := by decide +kernel
theorem dX8_lay_45 : decode cX8_lay 45 = .ok (.aload_n 0, 1) := by decide +kernel
theorem dX8_lay_46 : decode cX8_lay 46 = .ok (.getfield 41, 3) := by decide +kernel
theorem dX8_lay_49 : decode cX8_lay 49 = .ok (.bipush 40, 2) := by decide +kernel
theorem dX8_lay_51 : decode cX8_lay 51 = .ok (.iload_n 1, 1) := by decide +kernel
theorem dX8_lay_52 : decode cX8_lay 52 = .ok (.imul, 1) := by decide +kernel
theorem dX8_lay_53 : decode cX8_lay 53 = .ok (.iload_n 2, 1) := by decide +kernel
theorem dX8_lay_54 : decode cX8_lay 54 = .ok (.iadd, 1) := by decide +kernel
theorem dX8_lay_55 : decode cX8_lay 55 = .ok (.aload_n 0, 1) := by decide +kernel
theorem dX8_lay_56 : decode cX8_lay 56 = .ok (.getfield 35, 3) := by decide +kernel
theorem dX8_lay_59 : decode cX8_lay 59 = .ok (.iload_n 1, 1) := by decide +kernel
theorem dX8_lay_60 : decode cX8_lay 60 = .ok (.iaload, 1) := by decide +kernel
theorem dX8_lay_61 : decode cX8_lay 61 = .ok (.ifCond .ne 8, 3) := by decide +kernel
theorem dX8_lay_64 : decode cX8_lay 64 = .ok (.iload_n 3, 1) := by decide +kernel
theorem dX8_lay_65 : decode cX8_lay 65 = .ok (.i2b, 1) := by decide +kernel
theorem dX8_lay_66 : decode cX8_lay 66 = .ok (.goto 19, 3) := by decide +kernel
theorem dX8_lay_69 : decode cX8_lay 69 = .ok (.aload_n 0, 1) := by decide +kernel
theorem dX8_lay_70 : decode cX8_lay 70 = .ok (.getfield 35, 3) := by decide +kernel
theorem dX8_lay_73 : decode cX8_lay 73 = .ok (.iload_n 1, 1) := by decide +kernel
theorem dX8_lay_74 : decode cX8_lay 74 = .ok (.iaload, 1) := by decide +kernel
theorem dX8_lay_75 : decode cX8_lay 75 = .ok (.iconst 1, 1) := by decide +kernel
theorem dX8_lay_76 : decode cX8_lay 76 = .ok (.if_icmp .ne 8, 3) := by decide +kernel
theorem dX8_lay_79 : decode cX8_lay 79 = .ok (.iload_n 3, 1) := by decide +kernel
theorem dX8_lay_80 : decode cX8_lay 80 = .ok (.i2s, 1) := by decide +kernel
theorem dX8_lay_81 : decode cX8_lay 81 = .ok (.goto 4, 3) := by decide +kernel
theorem dX8_lay_84 : decode cX8_lay 84 = .ok (.iload_n 3, 1) := by decide +kernel
theorem dX8_lay_85 : decode cX8_lay 85 = .ok (.iastore, 1) := by decide +kernel
theorem dX8_lay_86 : decode cX8_lay 86 = .ok (.iconst 1, 1) := by decide +kernel
theorem dX8_lay_87 : decode cX8_lay 87 = .ok (.ireturn, 1) := by decide +kernel
set_option maxRecDepth 20000 in
theorem ggX8_read_X8_isSheet : GoodIn wsX8_read wsX8_isSheet := goodIn_r _ [11, 12, 13, 14, 15, 10, 16] (by decide +kernel) (by decide +kernel)
set_option maxRecDepth 20000 in
theorem gX8_read_X8_isSheet : GoodIn wsX8_read (va_wsS RX8 303 yX8_isSheet wsX8_isSheet) := goodIn_app (goodIn_of _ (by decide +kernel)) ggX8_read_X8_isSheet
set_option maxRecDepth 20000 in
theorem ggX8_read_X8_in : GoodIn wsX8_read wsX8_in := goodIn_r _ [16] (by decide +kernel) (by decide +kernel)
set_option maxRecDepth 20000 in
theorem gX8_read_X8_in : GoodIn wsX8_read (va_wsS RX8 72 yX8_in wsX8_in) := goodIn_app (goodIn_of _ (by decide +kernel)) ggX8_read_X8_in
set_option maxRecDepth 20000 in
theorem ggX8_read_X8_pay : GoodIn wsX8_read wsX8_pay := goodIn_r _ [20, 21, 22, 23, 24, 10, 25, 26, 27, 28, 29, 30, 14, 15, 16, 31, 32, 33, 34, 35, 3, 36, 37, 38, 39, 40, 41, 42, 43, 44, 45, 46, 47, 48, 49, 50, 51, 52, 53, 54, 55, 56, 57, 58, 59, 60, 61, 62, 63, 64, 65, 66, 67, 68, 69, 70, 71, 72, 73, 74, 75, 76, 77, 78, 79, 80, 81, 82, 83, 84, 85, 86, 87, 88, 89, 90, 91, 92] (by decide +kernel) (by decide +kernel)
set_option maxRecDepth 20000 in
theorem gX8_read_X8_pay : GoodIn wsX8_read (wsV RX8 308 RX8 yX8_pay wsX8_pay) := goodIn_app (goodIn_of _ (by decide +kernel)) ggX8_read_X8_pay
theorem dX8_read_0 : decode cX8_read 0 = .ok (.iload_n 1, 1) := by decide +kernel
theorem dX8_read_1 : decode cX8_read 1 = .ok (.iload_n 2, 1) := by decide +kernel
theorem dX8_read_2 : decode cX8_read 2 = .ok (.invokestatic 303, 3) := by decide +kernel
theorem dX8_read_5 : decode cX8_read 5 = .ok (.ifCond .eq 16, 3) := by decide +kernel
theorem dX8_read_8 : decode cX8_read 8 = .ok (.iload 4, 2) := by decide +kernel
theorem dX8_read_10 : decode cX8_read 10 = .ok (.i2l, 1) := by decide +kernel
theorem dX8_read_11 : decode cX8_read 11 = .ok (.lconst 0, 1) := by decide +kernel
theorem dX8_read_12 : decode cX8_read 12 = .ok (.ldc2_w 306, 3) := by decide +kernel
theorem dX8_read_15 : decode cX8_read 15 = .ok (.invokestatic 72, 3) := by decide +kernel
theorem dX8_read_18 : decode cX8_read 18 = .ok (.ifCond .ne 5, 3) := by decide +kernel
theorem dX8_read_21 : decode cX8_read 21 = .ok (.iconst (-1), 1) := by decide +kernel
theorem dX8_read_22 : decode cX8_read 22 = .ok (.ireturn, 1) := by decide +kernel
theorem dX8_read_23 : decode cX8_read 23 = .ok (.iconst 0, 1) := by decide +kernel
theorem dX8_read_24 : decode cX8_read 24 = .ok (.istore 5, 2) := by decide +kernel
theorem dX8_read_26 : decode cX8_read 26 = .ok (.iload 5, 2) := by decide +kernel
theorem dX8_read_28 : decode cX8_read 28 = .ok (.bipush 61, 2) := by decide +kernel
theorem dX8_read_30 : decode cX8_read 30 = .ok (.if_icmp .ge 23, 3) := by decide +kernel
theorem dX8_read_33 : decode cX8_read 33 = .ok (.aload_n 0, 1) := by decide +kernel
theorem dX8_read_34 : decode cX8_read 34 = .ok (.getfield 44, 3) := by decide +kernel
theorem dX8_read_37 : decode cX8_read 37 = .ok (.iload 5, 2) := by decide +kernel
theorem dX8_read_39 : decode cX8_read 39 = .ok (.aload_n 0, 1) := by decide +kernel
theorem dX8_read_40 : decode cX8_read 40 = .ok (.getfield 7, 3) := by decide +kernel
theorem dX8_read_43 : decode cX8_read 43 = .ok (.iload 5, 2) := by decide +kernel
theorem dX8_read_45 : decode cX8_read 45 = .ok (.iaload, 1) := by decide +kernel
theorem dX8_read_46 : decode cX8_read 46 = .ok (.iastore, 1) := by decide +kernel
theorem dX8_read_47 : decode cX8_read 47 = .ok (.iinc 5 1, 3) := by decide +kernel
theorem dX8_read_50 : decode cX8_read 50 = .ok (.goto (-24), 3) := by decide +kernel
theorem dX8_read_53 : decode cX8_read 53 = .ok (.iconst 0, 1) := by decide +kernel
theorem dX8_read_54 : decode cX8_read 54 = .ok (.istore 5, 2) := by decide +kernel
theorem dX8_read_56 : decode cX8_read 56 = .ok (.iconst 0, 1) := by decide +kernel
theorem dX8_read_57 : decode cX8_read 57 = .ok (.istore 6, 2) := by decide +kernel
theorem dX8_read_59 : decode cX8_read 59 = .ok (.iconst 0, 1) := by decide +kernel
theorem dX8_read_60 : decode cX8_read 60 = .ok (.istore 7, 2) := by decide +kernel
theorem dX8_read_62 : decode cX8_read 62 = .ok (.iload 7, 2) := by decide +kernel
theorem dX8_read_64 : decode cX8_read 64 = .ok (.iload 4, 2) := by decide +kernel
theorem dX8_read_66 : decode cX8_read 66 = .ok (.if_icmp .ge 193, 3) := by decide +kernel
theorem dX8_read_69 : decode cX8_read 69 = .ok (.iload 5, 2) := by decide +kernel
theorem dX8_read_71 : decode cX8_read 71 = .ok (.ifCond .ne 188, 3) := by decide +kernel
theorem dX8_read_74 : decode cX8_read 74 = .ok (.iconst 0, 1) := by decide +kernel
theorem dX8_read_75 : decode cX8_read 75 = .ok (.istore 8, 2) := by decide +kernel
theorem dX8_read_77 : decode cX8_read 77 = .ok (.iload 8, 2) := by decide +kernel
theorem dX8_read_79 : decode cX8_read 79 = .ok (.iconst 3, 1) := by decide +kernel
theorem dX8_read_80 : decode cX8_read 80 = .ok (.if_icmp .ge 84, 3) := by decide +kernel
theorem dX8_read_83 : decode cX8_read 83 = .ok (.iload 5, 2) := by decide +kernel
theorem dX8_read_85 : decode cX8_read 85 = .ok (.ifCond .ne 79, 3) := by decide +kernel
theorem dX8_read_88 : decode cX8_read 88 = .ok (.iload_n 3, 1) := by decide +kernel
theorem dX8_read_89 : decode cX8_read 89 = .ok (.i2l, 1) := by decide +kernel
theorem dX8_read_90 : decode cX8_read 90 = .ok (.iconst 3, 1) := by decide +kernel
theorem dX8_read_91 : decode cX8_read 91 = .ok (.iload 7, 2) := by decide +kernel
theorem dX8_read_93 : decode cX8_read 93 = .ok (.imul, 1) := by decide +kernel
theorem dX8_read_94 : decode cX8_read 94 = .ok (.i2l, 1) := by decide +kernel
theorem dX8_read_95 : decode cX8_read 95 = .ok (.ladd, 1) := by decide +kernel
theorem dX8_read_96 : decode cX8_read 96 = .ok (.iload 8, 2) := by decide +kernel
theorem dX8_read_98 : decode cX8_read 98 = .ok (.i2l, 1) := by decide +kernel
theorem dX8_read_99 : decode cX8_read 99 = .ok (.ladd, 1) := by decide +kernel
theorem dX8_read_100 : decode cX8_read 100 = .ok (.lstore 9, 2) := by decide +kernel
theorem dX8_read_102 : decode cX8_read 102 = .ok (.aload_n 0, 1) := by decide +kernel
theorem dX8_read_103 : decode cX8_read 103 = .ok (.getfield 35, 3) := by decide +kernel
theorem dX8_read_106 : decode cX8_read 106 = .ok (.iload_n 1, 1) := by decide +kernel
theorem dX8_read_107 : decode cX8_read 107 = .ok (.iaload, 1) := by decide +kernel
theorem dX8_read_108 : decode cX8_read 108 = .ok (.bipush (-4), 2) := by decide +kernel
theorem dX8_read_110 : decode cX8_read 110 = .ok (.if_icmp .ne 7, 3) := by decide +kernel
theorem dX8_read_113 : decode cX8_read 113 = .ok (.iconst 1, 1) := by decide +kernel
theorem dX8_read_114 : decode cX8_read 114 = .ok (.goto 42, 3) := by decide +kernel
theorem dX8_read_117 : decode cX8_read 117 = .ok (.aload_n 0, 1) := by decide +kernel
theorem dX8_read_118 : decode cX8_read 118 = .ok (.getfield 35, 3) := by decide +kernel
theorem dX8_read_121 : decode cX8_read 121 = .ok (.iload_n 1, 1) := by decide +kernel
theorem dX8_read_122 : decode cX8_read 122 = .ok (.iaload, 1) := by decide +kernel
theorem dX8_read_123 : decode cX8_read 123 = .ok (.iload_n 2, 1) := by decide +kernel
theorem dX8_read_124 : decode cX8_read 124 = .ok (.if_icmp .eq 7, 3) := by decide +kernel
theorem dX8_read_127 : decode cX8_read 127 = .ok (.iconst 3, 1) := by decide +kernel
theorem dX8_read_128 : decode cX8_read 128 = .ok (.goto 28, 3) := by decide +kernel
theorem dX8_read_131 : decode cX8_read 131 = .ok (.lload 9, 2) := by decide +kernel
theorem dX8_read_133 : decode cX8_read 133 = .ok (.lconst 0, 1) := by decide +kernel
theorem dX8_read_134 : decode cX8_read 134 = .ok (.lcmp, 1) := by decide +kernel
theorem dX8_read_135 : decode cX8_read 135 = .ok (.ifCond .lt 16, 3) := by decide +kernel
theorem dX8_read_138 : decode cX8_read 138 = .ok (.lload 9, 2) := by decide +kernel
theorem dX8_read_140 : decode cX8_read 140 = .ok (.aload_n 0, 1) := by decide +kernel
theorem dX8_read_141 : decode cX8_read 141 = .ok (.getfield 38, 3) := by decide +kernel
theorem dX8_read_144 : decode cX8_read 144 = .ok (.iload_n 1, 1) := by decide +kernel
theorem dX8_read_145 : decode cX8_read 145 = .ok (.iaload, 1) := by decide +kernel
theorem dX8_read_146 : decode cX8_read 146 = .ok (.i2l, 1) := by decide +kernel
theorem dX8_read_147 : decode cX8_read 147 = .ok (.lcmp, 1) := by decide +kernel
theorem dX8_read_148 : decode cX8_read 148 = .ok (.ifCond .lt 7, 3) := by decide +kernel
theorem dX8_read_151 : decode cX8_read 151 = .ok (.iconst 2, 1) := by decide +kernel
theorem dX8_read_152 : decode cX8_read 152 = .ok (.goto 4, 3) := by decide +kernel
theorem dX8_read_155 : decode cX8_read 155 = .ok (.iconst 0, 1) := by decide +kernel
theorem dX8_read_156 : decode cX8_read 156 = .ok (.istore 5, 2) := by decide +kernel
theorem dX8_read_158 : decode cX8_read 158 = .ok (.iinc 8 1, 3) := by decide +kernel
theorem dX8_read_161 : decode cX8_read 161 = .ok (.goto (-84), 3) := by decide +kernel
theorem dX8_read_164 : decode cX8_read 164 = .ok (.iload 5, 2) := by decide +kernel
theorem dX8_read_166 : decode cX8_read 166 = .ok (.ifCond .ne 87, 3) := by decide +kernel
theorem dX8_read_169 : decode cX8_read 169 = .ok (.bipush 40, 2) := by decide +kernel
theorem dX8_read_171 : decode cX8_read 171 = .ok (.iload_n 1, 1) := by decide +kernel
theorem dX8_read_172 : decode cX8_read 172 = .ok (.imul, 1) := by decide +kernel
theorem dX8_read_173 : decode cX8_read 173 = .ok (.iload_n 3, 1) := by decide +kernel
theorem dX8_read_174 : decode cX8_read 174 = .ok (.iadd, 1) := by decide +kernel
theorem dX8_read_175 : decode cX8_read 175 = .ok (.iconst 3, 1) := by decide +kernel
theorem dX8_read_176 : decode cX8_read 176 = .ok (.iload 7, 2) := by decide +kernel
theorem dX8_read_178 : decode cX8_read 178 = .ok (.imul, 1) := by decide +kernel
theorem dX8_read_179 : decode cX8_read 179 = .ok (.iadd, 1) := by decide +kernel
theorem dX8_read_180 : decode cX8_read 180 = .ok (.istore 8, 2) := by decide +kernel
theorem dX8_read_182 : decode cX8_read 182 = .ok (.aload_n 0, 1) := by decide +kernel
theorem dX8_read_183 : decode cX8_read 183 = .ok (.aload_n 0, 1) := by decide +kernel
theorem dX8_read_184 : decode cX8_read 184 = .ok (.getfield 41, 3) := by decide +kernel
theorem dX8_read_187 : decode cX8_read 187 = .ok (.iload 8, 2) := by decide +kernel
theorem dX8_read_189 : decode cX8_read 189 = .ok (.iaload, 1) := by decide +kernel
theorem dX8_read_190 : decode cX8_read 190 = .ok (.aload_n 0, 1) := by decide +kernel
theorem dX8_read_191 : decode cX8_read 191 = .ok (.getfield 41, 3) := by decide +kernel
theorem dX8_read_194 : decode cX8_read 194 = .ok (.iload 8, 2) := by decide +kernel
theorem dX8_read_196 : decode cX8_read 196 = .ok (.iconst 1, 1) := by decide +kernel
theorem dX8_read_197 : decode cX8_read 197 = .ok (.iadd, 1) := by decide +kernel
theorem dX8_read_198 : decode cX8_read 198 = .ok (.iaload, 1) := by decide +kernel
theorem dX8_read_199 : decode cX8_read 199 = .ok (.aload_n 0, 1) := by decide +kernel
theorem dX8_read_200 : decode cX8_read 200 = .ok (.getfield 41, 3) := by decide +kernel
theorem dX8_read_203 : decode cX8_read 203 = .ok (.iload 8, 2) := by decide +kernel
theorem dX8_read_205 : decode cX8_read 205 = .ok (.iconst 2, 1) := by decide +kernel
theorem dX8_read_206 : decode cX8_read 206 = .ok (.iadd, 1) := by decide +kernel
theorem dX8_read_207 : decode cX8_read 207 = .ok (.iaload, 1) := by decide +kernel
theorem dX8_read_208 : decode cX8_read 208 = .ok (.invokevirtual 308, 3) := by decide +kernel
theorem dX8_read_211 : decode cX8_read 211 = .ok (.ifCond .ge 39, 3) := by decide +kernel
theorem dX8_read_214 : decode cX8_read 214 = .ok (.iconst 0, 1) := by decide +kernel
theorem dX8_read_215 : decode cX8_read 215 = .ok (.istore 9, 2) := by decide +kernel
theorem dX8_read_217 : decode cX8_read 217 = .ok (.iload 9, 2) := by decide +kernel
theorem dX8_read_219 : decode cX8_read 219 = .ok (.bipush 61, 2) := by decide +kernel
theorem dX8_read_221 : decode cX8_read 221 = .ok (.if_icmp .ge 23, 3) := by decide +kernel
theorem dX8_read_224 : decode cX8_read 224 = .ok (.aload_n 0, 1) := by decide +kernel
theorem dX8_read_225 : decode cX8_read 225 = .ok (.getfield 7, 3) := by decide +kernel
theorem dX8_read_228 : decode cX8_read 228 = .ok (.iload 9, 2) := by decide +kernel
theorem dX8_read_230 : decode cX8_read 230 = .ok (.aload_n 0, 1) := by decide +kernel
theorem dX8_read_231 : decode cX8_read 231 = .ok (.getfield 44, 3) := by decide +kernel
theorem dX8_read_234 : decode cX8_read 234 = .ok (.iload 9, 2) := by decide +kernel
theorem dX8_read_236 : decode cX8_read 236 = .ok (.iaload, 1) := by decide +kernel
theorem dX8_read_237 : decode cX8_read 237 = .ok (.iastore, 1) := by decide +kernel
theorem dX8_read_238 : decode cX8_read 238 = .ok (.iinc 9 1, 3) := by decide +kernel
theorem dX8_read_241 : decode cX8_read 241 = .ok (.goto (-24), 3) := by decide +kernel
theorem dX8_read_244 : decode cX8_read 244 = .ok (.bipush (-20), 2) := by decide +kernel
theorem dX8_read_246 : decode cX8_read 246 = .ok (.iload 7, 2) := by decide +kernel
theorem dX8_read_248 : decode cX8_read 248 = .ok (.isub, 1) := by decide +kernel
theorem dX8_read_249 : decode cX8_read 249 = .ok (.ireturn, 1) := by decide +kernel
theorem dX8_read_250 : decode cX8_read 250 = .ok (.iinc 6 1, 3) := by decide +kernel
theorem dX8_read_253 : decode cX8_read 253 = .ok (.iinc 7 1, 3) := by decide +kernel
theorem dX8_read_256 : decode cX8_read 256 = .ok (.goto (-194), 3) := by decide +kernel
theorem dX8_read_259 : decode cX8_read 259 = .ok (.aload_n 0, 1) := by decide +kernel
theorem dX8_read_260 : decode cX8_read 260 = .ok (.iload 5, 2) := by decide +kernel
theorem dX8_read_262 : decode cX8_read 262 = .ok (.putfield 311, 3) := by decide +kernel
theorem dX8_read_265 : decode cX8_read 265 = .ok (.iload 6, 2) := by decide +kernel
theorem dX8_read_267 : decode cX8_read 267 = .ok (.ireturn, 1) := by decide +kernel
theorem dX8_torn_0 : decode cX8_torn 0 = .ok (.aload_n 0, 1) := by decide +kernel
theorem dX8_torn_1 : decode cX8_torn 1 = .ok (.getfield 311, 3) := by decide +kernel
theorem dX8_torn_4 : decode cX8_torn 4 = .ok (.ireturn, 1) := by decide +kernel
set_option maxRecDepth 20000 in
theorem ggX8_count_X8_flag : GoodIn wsX8_count wsX8_flag := goodIn_r _ [9] (by decide +kernel) (by decide +kernel)
set_option maxRecDepth 20000 in
theorem gX8_count_X8_flag : GoodIn wsX8_count (va_wsS RX8 184 yX8_flag wsX8_flag) := goodIn_app (goodIn_of _ (by decide +kernel)) ggX8_count_X8_flag
theorem dX8_count_0 : decode cX8_count 0 = .ok (.iconst 0, 1) := by decide +kernel
theorem dX8_count_1 : decode cX8_count 1 = .ok (.istore_n 2, 1) := by decide +kernel
theorem dX8_count_2 : decode cX8_count 2 = .ok (.iconst 0, 1) := by decide +kernel
theorem dX8_count_3 : decode cX8_count 3 = .ok (.istore_n 3, 1) := by decide +kernel
theorem dX8_count_4 : decode cX8_count 4 = .ok (.iload_n 3, 1) := by decide +kernel
theorem dX8_count_5 : decode cX8_count 5 = .ok (.bipush 25, 2) := by decide +kernel
theorem dX8_count_7 : decode cX8_count 7 = .ok (.if_icmp .ge 32, 3) := by decide +kernel
theorem dX8_count_10 : decode cX8_count 10 = .ok (.iload_n 2, 1) := by decide +kernel
theorem dX8_count_11 : decode cX8_count 11 = .ok (.aload_n 0, 1) := by decide +kernel
theorem dX8_count_12 : decode cX8_count 12 = .ok (.getfield 7, 3) := by decide +kernel
theorem dX8_count_15 : decode cX8_count 15 = .ok (.bipush 15, 2) := by decide +kernel
theorem dX8_count_17 : decode cX8_count 17 = .ok (.iload_n 3, 1) := by decide +kernel
theorem dX8_count_18 : decode cX8_count 18 = .ok (.iadd, 1) := by decide +kernel
theorem dX8_count_19 : decode cX8_count 19 = .ok (.iaload, 1) := by decide +kernel
theorem dX8_count_20 : decode cX8_count 20 = .ok (.ifCond .le 7, 3) := by decide +kernel
theorem dX8_count_23 : decode cX8_count 23 = .ok (.iconst 1, 1) := by decide +kernel
theorem dX8_count_24 : decode cX8_count 24 = .ok (.goto 4, 3) := by decide +kernel
theorem dX8_count_27 : decode cX8_count 27 = .ok (.iconst 0, 1) := by decide +kernel
theorem dX8_count_28 : decode cX8_count 28 = .ok (.invokestatic 184, 3) := by decide +kernel
theorem dX8_count_31 : decode cX8_count 31 = .ok (.iadd, 1) := by decide +kernel
theorem dX8_count_32 : decode cX8_count 32 = .ok (.istore_n 2, 1) := by decide +kernel
theorem dX8_count_33 : decode cX8_count 33 = .ok (.iinc 3 1, 3) := by decide +kernel
theorem dX8_count_36 : decode cX8_count 36 = .ok (.goto (-32), 3) := by decide +kernel
theorem dX8_count_39 : decode cX8_count 39 = .ok (.iload_n 1, 1) := by decide +kernel
theorem dX8_count_40 : decode cX8_count 40 = .ok (.tableswitch 94 0 4 #[36, 44, 64, 69, 92], 36) := by decide +kernel
theorem dX8_count_76 : decode cX8_count 76 = .ok (.aload_n 0, 1) := by decide +kernel
theorem dX8_count_77 : decode cX8_count 77 = .ok (.getfield 7, 3) := by decide +kernel
theorem dX8_count_80 : decode cX8_count 80 = .ok (.bipush 42, 2) := by decide +kernel
theorem dX8_count_82 : decode cX8_count 82 = .ok (.iaload, 1) := by decide +kernel
theorem dX8_count_83 : decode cX8_count 83 = .ok (.ireturn, 1) := by decide +kernel
theorem dX8_count_84 : decode cX8_count 84 = .ok (.aload_n 0, 1) := by decide +kernel
theorem dX8_count_85 : decode cX8_count 85 = .ok (.getfield 16, 3) := by decide +kernel
theorem dX8_count_88 : decode cX8_count 88 = .ok (.iconst 0, 1) := by decide +kernel
theorem dX8_count_89 : decode cX8_count 89 = .ok (.baload, 1) := by decide +kernel
theorem dX8_count_90 : decode cX8_count 90 = .ok (.invokestatic 184, 3) := by decide +kernel
theorem dX8_count_93 : decode cX8_count 93 = .ok (.aload_n 0, 1) := by decide +kernel
theorem dX8_count_94 : decode cX8_count 94 = .ok (.getfield 16, 3) := by decide +kernel
theorem dX8_count_97 : decode cX8_count 97 = .ok (.iconst 1, 1) := by decide +kernel
theorem dX8_count_98 : decode cX8_count 98 = .ok (.baload, 1) := by decide +kernel
theorem dX8_count_99 : decode cX8_count 99 = .ok (.invokestatic 184, 3) := by decide +kernel
theorem dX8_count_102 : decode cX8_count 102 = .ok (.iadd, 1) := by decide +kernel
theorem dX8_count_103 : decode cX8_count 103 = .ok (.ireturn, 1) := by decide +kernel
theorem dX8_count_104 : decode cX8_count 104 = .ok (.aload_n 0, 1) := by decide +kernel
theorem dX8_count_105 : decode cX8_count 105 = .ok (.getfield 76, 3) := by decide +kernel
theorem dX8_count_108 : decode cX8_count 108 = .ok (.ireturn, 1) := by decide +kernel
theorem dX8_count_109 : decode cX8_count 109 = .ok (.aload_n 0, 1) := by decide +kernel
theorem dX8_count_110 : decode cX8_count 110 = .ok (.getfield 35, 3) := by decide +kernel
theorem dX8_count_113 : decode cX8_count 113 = .ok (.iconst 0, 1) := by decide +kernel
theorem dX8_count_114 : decode cX8_count 114 = .ok (.iaload, 1) := by decide +kernel
theorem dX8_count_115 : decode cX8_count 115 = .ok (.bipush (-4), 2) := by decide +kernel
theorem dX8_count_117 : decode cX8_count 117 = .ok (.if_icmp .ne 8, 3) := by decide +kernel
theorem dX8_count_120 : decode cX8_count 120 = .ok (.bipush (-4), 2) := by decide +kernel
theorem dX8_count_122 : decode cX8_count 122 = .ok (.goto 9, 3) := by decide +kernel
theorem dX8_count_125 : decode cX8_count 125 = .ok (.aload_n 0, 1) := by decide +kernel
theorem dX8_count_126 : decode cX8_count 126 = .ok (.getfield 38, 3) := by decide +kernel
theorem dX8_count_129 : decode cX8_count 129 = .ok (.iconst 0, 1) := by decide +kernel
theorem dX8_count_130 : decode cX8_count 130 = .ok (.iaload, 1) := by decide +kernel
theorem dX8_count_131 : decode cX8_count 131 = .ok (.ireturn, 1) := by decide +kernel
theorem dX8_count_132 : decode cX8_count 132 = .ok (.iload_n 2, 1) := by decide +kernel
theorem dX8_count_133 : decode cX8_count 133 = .ok (.ireturn, 1) := by decide +kernel
theorem dX8_count_134 : decode cX8_count 134 = .ok (.iconst (-1), 1) := by decide +kernel
theorem dX8_count_135 : decode cX8_count 135 = .ok (.ireturn, 1) := by decide +kernel
theorem dJ6_bitCount_0f7a4_0 : decode cJ6_bitCount_0f7a4 0 = .ok (.iload_n 0, 1) := by decide +kernel
theorem dJ6_bitCount_0f7a4_1 : decode cJ6_bitCount_0f7a4 1 = .ok (.iload_n 0, 1) := by decide +kernel
theorem dJ6_bitCount_0f7a4_2 : decode cJ6_bitCount_0f7a4 2 = .ok (.iconst 1, 1) := by decide +kernel
theorem dJ6_bitCount_0f7a4_3 : decode cJ6_bitCount_0f7a4 3 = .ok (.iushr, 1) := by decide +kernel
theorem dJ6_bitCount_0f7a4_4 : decode cJ6_bitCount_0f7a4 4 = .ok (.ldc_w 265, 3) := by decide +kernel
theorem dJ6_bitCount_0f7a4_7 : decode cJ6_bitCount_0f7a4 7 = .ok (.iand, 1) := by decide +kernel
theorem dJ6_bitCount_0f7a4_8 : decode cJ6_bitCount_0f7a4 8 = .ok (.isub, 1) := by decide +kernel
theorem dJ6_bitCount_0f7a4_9 : decode cJ6_bitCount_0f7a4 9 = .ok (.istore_n 0, 1) := by decide +kernel
theorem dJ6_bitCount_0f7a4_10 : decode cJ6_bitCount_0f7a4 10 = .ok (.iload_n 0, 1) := by decide +kernel
theorem dJ6_bitCount_0f7a4_11 : decode cJ6_bitCount_0f7a4 11 = .ok (.ldc_w 266, 3) := by decide +kernel
theorem dJ6_bitCount_0f7a4_14 : decode cJ6_bitCount_0f7a4 14 = .ok (.iand, 1) := by decide +kernel
theorem dJ6_bitCount_0f7a4_15 : decode cJ6_bitCount_0f7a4 15 = .ok (.iload_n 0, 1) := by decide +kernel
theorem dJ6_bitCount_0f7a4_16 : decode cJ6_bitCount_0f7a4 16 = .ok (.iconst 2, 1) := by decide +kernel
theorem dJ6_bitCount_0f7a4_17 : decode cJ6_bitCount_0f7a4 17 = .ok (.iushr, 1) := by decide +kernel
theorem dJ6_bitCount_0f7a4_18 : decode cJ6_bitCount_0f7a4 18 = .ok (.ldc_w 266, 3) := by decide +kernel
theorem dJ6_bitCount_0f7a4_21 : decode cJ6_bitCount_0f7a4 21 = .ok (.iand, 1) := by decide +kernel
theorem dJ6_bitCount_0f7a4_22 : decode cJ6_bitCount_0f7a4 22 = .ok (.iadd, 1) := by decide +kernel
theorem dJ6_bitCount_0f7a4_23 : decode cJ6_bitCount_0f7a4 23 = .ok (.istore_n 0, 1) := by decide +kernel
theorem dJ6_bitCount_0f7a4_24 : decode cJ6_bitCount_0f7a4 24 = .ok (.iload_n 0, 1) := by decide +kernel
theorem dJ6_bitCount_0f7a4_25 : decode cJ6_bitCount_0f7a4 25 = .ok (.iload_n 0, 1) := by decide +kernel
theorem dJ6_bitCount_0f7a4_26 : decode cJ6_bitCount_0f7a4 26 = .ok (.iconst 4, 1) := by decide +kernel
theorem dJ6_bitCount_0f7a4_27 : decode cJ6_bitCount_0f7a4 27 = .ok (.iushr, 1) := by decide +kernel
theorem dJ6_bitCount_0f7a4_28 : decode cJ6_bitCount_0f7a4 28 = .ok (.iadd, 1) := by decide +kernel
theorem dJ6_bitCount_0f7a4_29 : decode cJ6_bitCount_0f7a4 29 = .ok (.ldc_w 267, 3) := by decide +kernel
theorem dJ6_bitCount_0f7a4_32 : decode cJ6_bitCount_0f7a4 32 = .ok (.iand, 1) := by decide +kernel
theorem dJ6_bitCount_0f7a4_33 : decode cJ6_bitCount_0f7a4 33 = .ok (.istore_n 0, 1) := by decide +kernel
theorem dJ6_bitCount_0f7a4_34 : decode cJ6_bitCount_0f7a4 34 = .ok (.iload_n 0, 1) := by decide +kernel
theorem dJ6_bitCount_0f7a4_35 : decode cJ6_bitCount_0f7a4 35 = .ok (.iload_n 0, 1) := by decide +kernel
theorem dJ6_bitCount_0f7a4_36 : decode cJ6_bitCount_0f7a4 36 = .ok (.bipush 8, 2) := by decide +kernel
theorem dJ6_bitCount_0f7a4_38 : decode cJ6_bitCount_0f7a4 38 = .ok (.iushr, 1) := by decide +kernel
theorem dJ6_bitCount_0f7a4_39 : decode cJ6_bitCount_0f7a4 39 = .ok (.iadd, 1) := by decide +kernel
theorem dJ6_bitCount_0f7a4_40 : decode cJ6_bitCount_0f7a4 40 = .ok (.istore_n 0, 1) := by decide +kernel
theorem dJ6_bitCount_0f7a4_41 : decode cJ6_bitCount_0f7a4 41 = .ok (.iload_n 0, 1) := by decide +kernel
theorem dJ6_bitCount_0f7a4_42 : decode cJ6_bitCount_0f7a4 42 = .ok (.iload_n 0, 1) := by decide +kernel
theorem dJ6_bitCount_0f7a4_43 : decode cJ6_bitCount_0f7a4 43 = .ok (.bipush 16, 2) := by decide +kernel
theorem dJ6_bitCount_0f7a4_45 : decode cJ6_bitCount_0f7a4 45 = .ok (.iushr, 1) := by decide +kernel
theorem dJ6_bitCount_0f7a4_46 : decode cJ6_bitCount_0f7a4 46 = .ok (.iadd, 1) := by decide +kernel
theorem dJ6_bitCount_0f7a4_47 : decode cJ6_bitCount_0f7a4 47 = .ok (.istore_n 0, 1) := by decide +kernel
theorem dJ6_bitCount_0f7a4_48 : decode cJ6_bitCount_0f7a4 48 = .ok (.iload_n 0, 1) := by decide +kernel
theorem dJ6_bitCount_0f7a4_49 : decode cJ6_bitCount_0f7a4 49 = .ok (.bipush 63, 2) := by decide +kernel
theorem dJ6_bitCount_0f7a4_51 : decode cJ6_bitCount_0f7a4 51 = .ok (.iand, 1) := by decide +kernel
theorem dJ6_bitCount_0f7a4_52 : decode cJ6_bitCount_0f7a4 52 = .ok (.ireturn, 1) := by decide +kernel
theorem dJ9_max_7cf53_0 : decode cJ9_max_7cf53 0 = .ok (.iload_n 0, 1) := by decide +kernel
theorem dJ9_max_7cf53_1 : decode cJ9_max_7cf53 1 = .ok (.iload_n 1, 1) := by decide +kernel
theorem dJ9_max_7cf53_2 : decode cJ9_max_7cf53 2 = .ok (.if_icmp .lt 7, 3) := by decide +kernel
theorem dJ9_max_7cf53_5 : decode cJ9_max_7cf53 5 = .ok (.iload_n 0, 1) := by decide +kernel
theorem dJ9_max_7cf53_6 : decode cJ9_max_7cf53 6 = .ok (.goto 4, 3) := by decide +kernel
theorem dJ9_max_7cf53_9 : decode cJ9_max_7cf53 9 = .ok (.iload_n 1, 1) := by decide +kernel
theorem dJ9_max_7cf53_10 : decode cJ9_max_7cf53 10 = .ok (.ireturn, 1) := by decide +kernel
theorem dJ9_max_f86c9_0 : decode cJ9_max_f86c9 0 = .ok (.lload_n 0, 1) := by decide +kernel
theorem dJ9_max_f86c9_1 : decode cJ9_max_f86c9 1 = .ok (.lload_n 2, 1) := by decide +kernel
theorem dJ9_max_f86c9_2 : decode cJ9_max_f86c9 2 = .ok (.lcmp, 1) := by decide +kernel
theorem dJ9_max_f86c9_3 : decode cJ9_max_f86c9 3 = .ok (.ifCond .lt 7, 3) := by decide +kernel
theorem dJ9_max_f86c9_6 : decode cJ9_max_f86c9 6 = .ok (.lload_n 0, 1) := by decide +kernel
theorem dJ9_max_f86c9_7 : decode cJ9_max_f86c9 7 = .ok (.goto 4, 3) := by decide +kernel
theorem dJ9_max_f86c9_10 : decode cJ9_max_f86c9 10 = .ok (.lload_n 2, 1) := by decide +kernel
theorem dJ9_max_f86c9_11 : decode cJ9_max_f86c9 11 = .ok (.lreturn, 1) := by decide +kernel
theorem dJ9_min_7cf53_0 : decode cJ9_min_7cf53 0 = .ok (.iload_n 0, 1) := by decide +kernel
theorem dJ9_min_7cf53_1 : decode cJ9_min_7cf53 1 = .ok (.iload_n 1, 1) := by decide +kernel
theorem dJ9_min_7cf53_2 : decode cJ9_min_7cf53 2 = .ok (.if_icmp .gt 7, 3) := by decide +kernel
theorem dJ9_min_7cf53_5 : decode cJ9_min_7cf53 5 = .ok (.iload_n 0, 1) := by decide +kernel
theorem dJ9_min_7cf53_6 : decode cJ9_min_7cf53 6 = .ok (.goto 4, 3) := by decide +kernel
theorem dJ9_min_7cf53_9 : decode cJ9_min_7cf53 9 = .ok (.iload_n 1, 1) := by decide +kernel
theorem dJ9_min_7cf53_10 : decode cJ9_min_7cf53 10 = .ok (.ireturn, 1) := by decide +kernel
set_option maxRecDepth 20000 in
theorem ggJ0_length_8abf5_J0_coder_7d493 : GoodIn wsJ0_length_8abf5 wsJ0_coder_7d493 := goodIn_r _ [6, 7, 8] (by decide +kernel) (by decide +kernel)
set_option maxRecDepth 20000 in
theorem gJ0_length_8abf5_J0_coder_7d493 : GoodIn wsJ0_length_8abf5 (wsV RJ0 335 RJ0 yJ0_coder_7d493 wsJ0_coder_7d493) := goodIn_app (goodIn_of _ (by decide +kernel)) ggJ0_length_8abf5_J0_coder_7d493
theorem dJ0_length_8abf5_0 : decode cJ0_length_8abf5 0 = .ok (.aload_n 0, 1) := by decide +kernel
theorem dJ0_length_8abf5_1 : decode cJ0_length_8abf5 1 = .ok (.getfield 9, 3) := by decide +kernel
theorem dJ0_length_8abf5_4 : decode cJ0_length_8abf5 4 = .ok (.arraylength, 1) := by decide +kernel
theorem dJ0_length_8abf5_5 : decode cJ0_length_8abf5 5 = .ok (.aload_n 0, 1) := by decide +kernel
theorem dJ0_length_8abf5_6 : decode cJ0_length_8abf5 6 = .ok (.invokevirtual 335, 3) := by decide +kernel
theorem dJ0_length_8abf5_9 : decode cJ0_length_8abf5 9 = .ok (.ishr, 1) := by decide +kernel
theorem dJ0_length_8abf5_10 : decode cJ0_length_8abf5 10 = .ok (.ireturn, 1) := by decide +kernel
set_option maxRecDepth 20000 in
theorem ggJ0_charAt_5068e_J0_isLatin1_aae02 : GoodIn wsJ0_charAt_5068e wsJ0_isLatin1_aae02 := goodIn_r _ [6, 7, 8] (by decide +kernel) (by decide +kernel)
set_option maxRecDepth 20000 in
theorem gJ0_charAt_5068e_J0_isLatin1_aae02 : GoodIn wsJ0_charAt_5068e (wsV RJ0 492 RJ0 yJ0_isLatin1_aae02 wsJ0_isLatin1_aae02) := goodIn_app (goodIn_of _ (by decide +kernel)) ggJ0_charAt_5068e_J0_isLatin1_aae02
set_option maxRecDepth 20000 in
theorem ggJ0_charAt_5068e_J1_charAt_3b067 : GoodIn wsJ0_charAt_5068e wsJ1_charAt_3b067 := goodIn_r _ [12, 13, 14, 5, 15, 16, 17, 18, 19, 20] (by decide +kernel) (by decide +kernel)
set_option maxRecDepth 20000 in
theorem gJ0_charAt_5068e_J1_charAt_3b067 : GoodIn wsJ0_charAt_5068e (va_wsS RJ0 495 yJ1_charAt_3b067 wsJ1_charAt_3b067) := goodIn_app (goodIn_of _ (by decide +kernel)) ggJ0_charAt_5068e_J1_charAt_3b067
set_option maxRecDepth 20000 in
theorem ggJ0_charAt_5068e_J2_charAt_3b067 : GoodIn wsJ0_charAt_5068e wsJ2_charAt_3b067 := goodIn_r _ [24, 25, 26, 23, 27, 28, 29, 30, 31, 14, 5, 15, 16, 17, 18, 19, 20, 32, 33, 34, 35, 36, 37] (by decide +kernel) (by decide +kernel)
set_option maxRecDepth 20000 in
theorem gJ0_charAt_5068e_J2_charAt_3b067 : GoodIn wsJ0_charAt_5068e (va_wsS RJ0 498 yJ2_charAt_3b067 wsJ2_charAt_3b067) := goodIn_app (goodIn_of _ (by decide +kernel)) ggJ0_charAt_5068e_J2_charAt_3b067
theorem dJ0_charAt_5068e_0 : decode cJ0_charAt_5068e 0 = .ok (.aload_n 0, 1) := by decide +kernel
theorem dJ0_charAt_5068e_1 : decode cJ0_charAt_5068e 1 = .ok (.invokevirtual 492, 3) := by decide +kernel
theorem dJ0_charAt_5068e_4 : decode cJ0_charAt_5068e 4 = .ok (.ifCond .eq 12, 3) := by decide +kernel
theorem dJ0_charAt_5068e_7 : decode cJ0_charAt_5068e 7 = .ok (.aload_n 0, 1) := by decide +kernel
theorem dJ0_charAt_5068e_8 : decode cJ0_charAt_5068e 8 = .ok (.getfield 9, 3) := by decide +kernel
theorem dJ0_charAt_5068e_11 : decode cJ0_charAt_5068e 11 = .ok (.iload_n 1, 1) := by decide +kernel
theorem dJ0_charAt_5068e_12 : decode cJ0_charAt_5068e 12 = .ok (.invokestatic 495, 3) := by decide +kernel
theorem dJ0_charAt_5068e_15 : decode cJ0_charAt_5068e 15 = .ok (.ireturn, 1) := by decide +kernel
theorem dJ0_charAt_5068e_16 : decode cJ0_charAt_5068e 16 = .ok (.aload_n 0, 1) := by decide +kernel
theorem dJ0_charAt_5068e_17 : decode cJ0_charAt_5068e 17 = .ok (.getfield 9, 3) := by decide +kernel
theorem dJ0_charAt_5068e_20 : decode cJ0_charAt_5068e 20 = .ok (.iload_n 1, 1) := by decide +kernel
theorem dJ0_charAt_5068e_21 : decode cJ0_charAt_5068e 21 = .ok (.invokestatic 498, 3) := by decide +kernel
theorem dJ0_charAt_5068e_24 : decode cJ0_charAt_5068e 24 = .ok (.ireturn, 1) := by decide +kernel
theorem dJ0_coder_7d493_0 : decode cJ0_coder_7d493 0 = .ok (.getstatic 38, 3) := by decide +kernel
theorem dJ0_coder_7d493_3 : decode cJ0_coder_7d493 3 = .ok (.ifCond .eq 10, 3) := by decide +kernel
theorem dJ0_coder_7d493_6 : decode cJ0_coder_7d493 6 = .ok (.aload_n 0, 1) := by decide +kernel
theorem dJ0_coder_7d493_7 : decode cJ0_coder_7d493 7 = .ok (.getfield 15, 3) := by decide +kernel
theorem dJ0_coder_7d493_10 : decode cJ0_coder_7d493 10 = .ok (.goto 4, 3) := by decide +kernel
theorem dJ0_coder_7d493_13 : decode cJ0_coder_7d493 13 = .ok (.iconst 1, 1) := by decide +kernel
theorem dJ0_coder_7d493_14 : decode cJ0_coder_7d493 14 = .ok (.ireturn, 1) := by decide +kernel
theorem dJ0_isLatin1_aae02_0 : decode cJ0_isLatin1_aae02 0 = .ok (.getstatic 38, 3) := by decide +kernel
theorem dJ0_isLatin1_aae02_3 : decode cJ0_isLatin1_aae02 3 = .ok (.ifCond .eq 14, 3) := by decide +kernel
theorem dJ0_isLatin1_aae02_6 : decode cJ0_isLatin1_aae02 6 = .ok (.aload_n 0, 1) := by decide +kernel
theorem dJ0_isLatin1_aae02_7 : decode cJ0_isLatin1_aae02 7 = .ok (.getfield 15, 3) := by decide +kernel
theorem dJ0_isLatin1_aae02_10 : decode cJ0_isLatin1_aae02 10 = .ok (.ifCond .ne 7, 3) := by decide +kernel
theorem dJ0_isLatin1_aae02_13 : decode cJ0_isLatin1_aae02 13 = .ok (.iconst 1, 1) := by decide +kernel
theorem dJ0_isLatin1_aae02_14 : decode cJ0_isLatin1_aae02 14 = .ok (.goto 4, 3) := by decide +kernel
theorem dJ0_isLatin1_aae02_17 : decode cJ0_isLatin1_aae02 17 = .ok (.iconst 0, 1) := by decide +kernel
theorem dJ0_isLatin1_aae02_18 : decode cJ0_isLatin1_aae02 18 = .ok (.ireturn, 1) := by decide +kernel
set_option maxRecDepth 20000 in
theorem ggJ0_checkIndex_df160_J3_checkIndex_8e157 : GoodIn wsJ0_checkIndex_df160 wsJ3_checkIndex_8e157 := goodIn_r _ [5] (by decide +kernel) (by decide +kernel)
set_option maxRecDepth 20000 in
theorem gJ0_checkIndex_df160_J3_checkIndex_8e157 : GoodIn wsJ0_checkIndex_df160 (va_wsS RJ0 1059 yJ3_checkIndex_8e157 wsJ3_checkIndex_8e157) := goodIn_app (goodIn_of _ (by decide +kernel)) ggJ0_checkIndex_df160_J3_checkIndex_8e157
theorem dJ0_checkIndex_df160_0 : decode cJ0_checkIndex_df160 0 = .ok (.iload_n 0, 1) := by decide +kernel
theorem dJ0_checkIndex_df160_1 : decode cJ0_checkIndex_df160 1 = .ok (.iload_n 1, 1) := by decide +kernel
theorem dJ0_checkIndex_df160_2 : decode cJ0_checkIndex_df160 2 = .ok (.getstatic 1053, 3) := by decide +kernel
theorem dJ0_checkIndex_df160_5 : decode cJ0_checkIndex_df160 5 = .ok (.invokestatic 1059, 3) := by decide +kernel
theorem dJ0_checkIndex_df160_8 : decode cJ0_checkIndex_df160 8 = .ok (.pop, 1) := by decide +kernel
theorem dJ0_checkIndex_df160_9 : decode cJ0_checkIndex_df160 9 = .ok (.return_, 1) := by decide +kernel
set_option maxRecDepth 20000 in
theorem ggJ1_charAt_3b067_J0_checkIndex_df160 : GoodIn wsJ1_charAt_3b067 wsJ0_checkIndex_df160 := goodIn_r _ [4, 5, 6, 7, 8, 9] (by decide +kernel) (by decide +kernel)
set_option maxRecDepth 20000 in
theorem gJ1_charAt_3b067_J0_checkIndex_df160 : GoodIn wsJ1_charAt_3b067 (va_wsS RJ1 9 yJ0_checkIndex_df160 wsJ0_checkIndex_df160) := goodIn_app (goodIn_of _ (by decide +kernel)) ggJ1_charAt_3b067_J0_checkIndex_df160
theorem dJ1_charAt_3b067_0 : decode cJ1_charAt_3b067 0 = .ok (.iload_n 1, 1) := by decide +kernel
theorem dJ1_charAt_3b067_1 : decode cJ1_charAt_3b067 1 = .ok (.aload_n 0, 1) := by decide +kernel
theorem dJ1_charAt_3b067_2 : decode cJ1_charAt_3b067 2 = .ok (.arraylength, 1) := by decide +kernel
theorem dJ1_charAt_3b067_3 : decode cJ1_charAt_3b067 3 = .ok (.invokestatic 9, 3) := by decide +kernel
theorem dJ1_charAt_3b067_6 : decode cJ1_charAt_3b067 6 = .ok (.aload_n 0, 1) := by decide +kernel
theorem dJ1_charAt_3b067_7 : decode cJ1_charAt_3b067 7 = .ok (.iload_n 1, 1) := by decide +kernel
theorem dJ1_charAt_3b067_8 : decode cJ1_charAt_3b067 8 = .ok (.baload, 1) := by decide +kernel
theorem dJ1_charAt_3b067_9 : decode cJ1_charAt_3b067 9 = .ok (.sipush 255, 3) := by decide +kernel
theorem dJ1_charAt_3b067_12 : decode cJ1_charAt_3b067 12 = .ok (.iand, 1) := by decide +kernel
theorem dJ1_charAt_3b067_13 : decode cJ1_charAt_3b067 13 = .ok (.i2c, 1) := by decide +kernel
theorem dJ1_charAt_3b067_14 : decode cJ1_charAt_3b067 14 = .ok (.ireturn, 1) := by decide +kernel
set_option maxRecDepth 20000 in
theorem ggJ2_getChar_3b067_J2_length_9d52b : GoodIn wsJ2_getChar_3b067 wsJ2_length_9d52b := goodIn_r _ [7] (by decide +kernel) (by decide +kernel)
set_option maxRecDepth 20000 in
theorem gJ2_getChar_3b067_J2_length_9d52b : GoodIn wsJ2_getChar_3b067 (va_wsS RJ2 48 yJ2_length_9d52b wsJ2_length_9d52b) := goodIn_app (goodIn_of _ (by decide +kernel)) ggJ2_getChar_3b067_J2_length_9d52b
theorem dJ2_getChar_3b067_0 : decode cJ2_getChar_3b067 0 = .ok (.getstatic 44, 3) := by decide +kernel
theorem dJ2_getChar_3b067_3 : decode cJ2_getChar_3b067 3 = .ok (.ifCond .ne 25, 3) := by decide +kernel
theorem dJ2_getChar_3b067_6 : decode cJ2_getChar_3b067 6 = .ok (.iload_n 1, 1) := by decide +kernel
theorem dJ2_getChar_3b067_7 : decode cJ2_getChar_3b067 7 = .ok (.ifCond .lt 11, 3) := by decide +kernel
theorem dJ2_getChar_3b067_10 : decode cJ2_getChar_3b067 10 = .ok (.iload_n 1, 1) := by decide +kernel
theorem dJ2_getChar_3b067_11 : decode cJ2_getChar_3b067 11 = .ok (.aload_n 0, 1) := by decide +kernel
theorem dJ2_getChar_3b067_12 : decode cJ2_getChar_3b067 12 = .ok (.invokestatic 48, 3) := by decide +kernel
theorem dJ2_getChar_3b067_15 : decode cJ2_getChar_3b067 15 = .ok (.if_icmp .lt 13, 3) := by decide +kernel
theorem dJ2_getChar_3b067_18 : decode cJ2_getChar_3b067 18 = .ok (.new 52, 3) := by decide +kernel
theorem dJ2_getChar_3b067_21 : decode cJ2_getChar_3b067 21 = .ok (.dup, 1) := by decide +kernel
theorem dJ2_getChar_3b067_22 : decode cJ2_getChar_3b067 22 = .ok (.ldc 54, 2) := by decide +kernel
theorem dJ2_getChar_3b067_24 : decode cJ2_getChar_3b067 24 = .ok (.invokespecial 56, 3) := by decide +kernel
theorem dJ2_getChar_3b067_27 : decode cJ2_getChar_3b067 27 = .ok (.athrow, 1) := by decide +kernel
theorem dJ2_getChar_3b067_28 : decode cJ2_getChar_3b067 28 = .ok (.iload_n 1, 1) := by decide +kernel
theorem dJ2_getChar_3b067_29 : decode cJ2_getChar_3b067 29 = .ok (.iconst 1, 1) := by decide +kernel
theorem dJ2_getChar_3b067_30 : decode cJ2_getChar_3b067 30 = .ok (.ishl, 1) := by decide +kernel
theorem dJ2_getChar_3b067_31 : decode cJ2_getChar_3b067 31 = .ok (.istore_n 1, 1) := by decide +kernel
theorem dJ2_getChar_3b067_32 : decode cJ2_getChar_3b067 32 = .ok (.aload_n 0, 1) := by decide +kernel
theorem dJ2_getChar_3b067_33 : decode cJ2_getChar_3b067 33 = .ok (.iload_n 1, 1) := by decide +kernel
theorem dJ2_getChar_3b067_34 : decode cJ2_getChar_3b067 34 = .ok (.iinc 1 1, 3) := by decide +kernel
theorem dJ2_getChar_3b067_37 : decode cJ2_getChar_3b067 37 = .ok (.baload, 1) := by decide +kernel
theorem dJ2_getChar_3b067_38 : decode cJ2_getChar_3b067 38 = .ok (.sipush 255, 3) := by decide +kernel
theorem dJ2_getChar_3b067_41 : decode cJ2_getChar_3b067 41 = .ok (.iand, 1) := by decide +kernel
theorem dJ2_getChar_3b067_42 : decode cJ2_getChar_3b067 42 = .ok (.getstatic 59, 3) := by decide +kernel
theorem dJ2_getChar_3b067_45 : decode cJ2_getChar_3b067 45 = .ok (.ishl, 1) := by decide +kernel
theorem dJ2_getChar_3b067_46 : decode cJ2_getChar_3b067 46 = .ok (.aload_n 0, 1) := by decide +kernel
theorem dJ2_getChar_3b067_47 : decode cJ2_getChar_3b067 47 = .ok (.iload_n 1, 1) := by decide +kernel
theorem dJ2_getChar_3b067_48 : decode cJ2_getChar_3b067 48 = .ok (.baload, 1) := by decide +kernel
theorem dJ2_getChar_3b067_49 : decode cJ2_getChar_3b067 49 = .ok (.sipush 255, 3) := by decide +kernel
theorem dJ2_getChar_3b067_52 : decode cJ2_getChar_3b067 52 = .ok (.iand, 1) := by decide +kernel
theorem dJ2_getChar_3b067_53 : decode cJ2_getChar_3b067 53 = .ok (.getstatic 63, 3) := by decide +kernel
theorem dJ2_getChar_3b067_56 : decode cJ2_getChar_3b067 56 = .ok (.ishl, 1) := by decide +kernel
theorem dJ2_getChar_3b067_57 : decode cJ2_getChar_3b067 57 = .ok (.ior, 1) := by decide +kernel
theorem dJ2_getChar_3b067_58 : decode cJ2_getChar_3b067 58 = .ok (.i2c, 1) := by decide +kernel
theorem dJ2_getChar_3b067_59 : decode cJ2_getChar_3b067 59 = .ok (.ireturn, 1) := by decide +kernel
theorem dJ2_length_9d52b_0 : decode cJ2_length_9d52b 0 = .ok (.aload_n 0, 1) := by decide +kernel
theorem dJ2_length_9d52b_1 : decode cJ2_length_9d52b 1 = .ok (.arraylength, 1) := by decide +kernel
theorem dJ2_length_9d52b_2 : decode cJ2_length_9d52b 2 = .ok (.iconst 1, 1) := by decide +kernel
theorem dJ2_length_9d52b_3 : decode cJ2_length_9d52b 3 = .ok (.ishr, 1) := by decide +kernel
theorem dJ2_length_9d52b_4 : decode cJ2_length_9d52b 4 = .ok (.ireturn, 1) := by decide +kernel
set_option maxRecDepth 20000 in
theorem ggJ2_charAt_3b067_J2_checkIndex_2214a : GoodIn wsJ2_charAt_3b067 wsJ2_checkIndex_2214a := goodIn_r _ [4, 5, 6, 3, 7, 8, 9, 10, 11, 12, 13, 14, 15, 16] (by decide +kernel) (by decide +kernel)
set_option maxRecDepth 20000 in
theorem gJ2_charAt_3b067_J2_checkIndex_2214a : GoodIn wsJ2_charAt_3b067 (va_wsS RJ2 67 yJ2_checkIndex_2214a wsJ2_checkIndex_2214a) := goodIn_app (goodIn_of _ (by decide +kernel)) ggJ2_charAt_3b067_J2_checkIndex_2214a
set_option maxRecDepth 20000 in
theorem ggJ2_charAt_3b067_J2_getChar_3b067 : GoodIn wsJ2_charAt_3b067 wsJ2_getChar_3b067 := goodIn_r _ [19, 20, 21, 22, 5, 6, 3, 7] (by decide +kernel) (by decide +kernel)
set_option maxRecDepth 20000 in
theorem gJ2_charAt_3b067_J2_getChar_3b067 : GoodIn wsJ2_charAt_3b067 (va_wsS RJ2 71 yJ2_getChar_3b067 wsJ2_getChar_3b067) := goodIn_app (goodIn_of _ (by decide +kernel)) ggJ2_charAt_3b067_J2_getChar_3b067
theorem dJ2_charAt_3b067_0 : decode cJ2_charAt_3b067 0 = .ok (.iload_n 1, 1) := by decide +kernel
theorem dJ2_charAt_3b067_1 : decode cJ2_charAt_3b067 1 = .ok (.aload_n 0, 1) := by decide +kernel
theorem dJ2_charAt_3b067_2 : decode cJ2_charAt_3b067 2 = .ok (.invokestatic 67, 3) := by decide +kernel
theorem dJ2_charAt_3b067_5 : decode cJ2_charAt_3b067 5 = .ok (.aload_n 0, 1) := by decide +kernel
theorem dJ2_charAt_3b067_6 : decode cJ2_charAt_3b067 6 = .ok (.iload_n 1, 1) := by decide +kernel
theorem dJ2_charAt_3b067_7 : decode cJ2_charAt_3b067 7 = .ok (.invokestatic 71, 3) := by decide +kernel
theorem dJ2_charAt_3b067_10 : decode cJ2_charAt_3b067 10 = .ok (.ireturn, 1) := by decide +kernel
set_option maxRecDepth 20000 in
theorem ggJ2_checkIndex_2214a_J2_length_9d52b : GoodIn wsJ2_checkIndex_2214a wsJ2_length_9d52b := goodIn_r _ [4] (by decide +kernel) (by decide +kernel)
set_option maxRecDepth 20000 in
theorem gJ2_checkIndex_2214a_J2_length_9d52b : GoodIn wsJ2_checkIndex_2214a (va_wsS RJ2 48 yJ2_length_9d52b wsJ2_length_9d52b) := goodIn_app (goodIn_of _ (by decide +kernel)) ggJ2_checkIndex_2214a_J2_length_9d52b
set_option maxRecDepth 20000 in
theorem ggJ2_checkIndex_2214a_J0_checkIndex_df160 : GoodIn wsJ2_checkIndex_2214a wsJ0_checkIndex_df160 := goodIn_r _ [8, 9, 10, 11, 12, 13] (by decide +kernel) (by decide +kernel)
set_option maxRecDepth 20000 in
theorem gJ2_checkIndex_2214a_J0_checkIndex_df160 : GoodIn wsJ2_checkIndex_2214a (va_wsS RJ2 414 yJ0_checkIndex_df160 wsJ0_checkIndex_df160) := goodIn_app (goodIn_of _ (by decide +kernel)) ggJ2_checkIndex_2214a_J0_checkIndex_df160
theorem dJ2_checkIndex_2214a_0 : decode cJ2_checkIndex_2214a 0 = .ok (.iload_n 0, 1) := by decide +kernel
theorem dJ2_checkIndex_2214a_1 : decode cJ2_checkIndex_2214a 1 = .ok (.aload_n 1, 1) := by decide +kernel
theorem dJ2_checkIndex_2214a_2 : decode cJ2_checkIndex_2214a 2 = .ok (.invokestatic 48, 3) := by decide +kernel
theorem dJ2_checkIndex_2214a_5 : decode cJ2_checkIndex_2214a 5 = .ok (.invokestatic 414, 3) := by decide +kernel
theorem dJ2_checkIndex_2214a_8 : decode cJ2_checkIndex_2214a 8 = .ok (.return_, 1) := by decide +kernel
theorem dJ7_fill_53178_0 : decode cJ7_fill_53178 0 = .ok (.iconst 0, 1) := by decide +kernel
theorem dJ7_fill_53178_1 : decode cJ7_fill_53178 1 = .ok (.istore_n 2, 1) := by decide +kernel
theorem dJ7_fill_53178_2 : decode cJ7_fill_53178 2 = .ok (.aload_n 0, 1) := by decide +kernel
theorem dJ7_fill_53178_3 : decode cJ7_fill_53178 3 = .ok (.arraylength, 1) := by decide +kernel
theorem dJ7_fill_53178_4 : decode cJ7_fill_53178 4 = .ok (.istore_n 3, 1) := by decide +kernel
theorem dJ7_fill_53178_5 : decode cJ7_fill_53178 5 = .ok (.iload_n 2, 1) := by decide +kernel
theorem dJ7_fill_53178_6 : decode cJ7_fill_53178 6 = .ok (.iload_n 3, 1) := by decide +kernel
theorem dJ7_fill_53178_7 : decode cJ7_fill_53178 7 = .ok (.if_icmp .ge 13, 3) := by decide +kernel
theorem dJ7_fill_53178_10 : decode cJ7_fill_53178 10 = .ok (.aload_n 0, 1) := by decide +kernel
theorem dJ7_fill_53178_11 : decode cJ7_fill_53178 11 = .ok (.iload_n 2, 1) := by decide +kernel
theorem dJ7_fill_53178_12 : decode cJ7_fill_53178 12 = .ok (.iload_n 1, 1) := by decide +kernel
theorem dJ7_fill_53178_13 : decode cJ7_fill_53178 13 = .ok (.iastore, 1) := by decide +kernel
theorem dJ7_fill_53178_14 : decode cJ7_fill_53178 14 = .ok (.iinc 2 1, 3) := by decide +kernel
theorem dJ7_fill_53178_17 : decode cJ7_fill_53178 17 = .ok (.goto (-12), 3) := by decide +kernel
theorem dJ7_fill_53178_20 : decode cJ7_fill_53178 20 = .ok (.return_, 1) := by decide +kernel
theorem dJ3_checkIndex_8e157_0 : decode cJ3_checkIndex_8e157 0 = .ok (.iload_n 0, 1) := by decide +kernel
theorem dJ3_checkIndex_8e157_1 : decode cJ3_checkIndex_8e157 1 = .ok (.ifCond .lt 8, 3) := by decide +kernel
theorem dJ3_checkIndex_8e157_4 : decode cJ3_checkIndex_8e157 4 = .ok (.iload_n 0, 1) := by decide +kernel
theorem dJ3_checkIndex_8e157_5 : decode cJ3_checkIndex_8e157 5 = .ok (.iload_n 1, 1) := by decide +kernel
theorem dJ3_checkIndex_8e157_6 : decode cJ3_checkIndex_8e157 6 = .ok (.if_icmp .lt 10, 3) := by decide +kernel
theorem dJ3_checkIndex_8e157_9 : decode cJ3_checkIndex_8e157 9 = .ok (.aload_n 2, 1) := by decide +kernel
theorem dJ3_checkIndex_8e157_10 : decode cJ3_checkIndex_8e157 10 = .ok (.iload_n 0, 1) := by decide +kernel
theorem dJ3_checkIndex_8e157_11 : decode cJ3_checkIndex_8e157 11 = .ok (.iload_n 1, 1) := by decide +kernel
theorem dJ3_checkIndex_8e157_12 : decode cJ3_checkIndex_8e157 12 = .ok (.invokestatic 95, 3) := by decide +kernel
theorem dJ3_checkIndex_8e157_15 : decode cJ3_checkIndex_8e157 15 = .ok (.athrow, 1) := by decide +kernel
theorem dJ3_checkIndex_8e157_16 : decode cJ3_checkIndex_8e157 16 = .ok (.iload_n 0, 1) := by decide +kernel
theorem dJ3_checkIndex_8e157_17 : decode cJ3_checkIndex_8e157 17 = .ok (.ireturn, 1) := by decide +kernel
