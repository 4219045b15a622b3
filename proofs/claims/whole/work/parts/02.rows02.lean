set_option maxRecDepth 20000 in
theorem ggX7_rule_X1_owedInAll : GoodIn wsX7_rule wsX1_owedInAll := goodIn_r _ [23, 10, 15, 16, 17, 8, 18, 19, 40, 41, 42, 43, 44, 45, 46] (by decide +kernel) (by decide +kernel)
set_option maxRecDepth 20000 in
theorem gX7_rule_X1_owedInAll : GoodIn wsX7_rule (wsV RX7 119 RX1 yX1_owedInAll wsX1_owedInAll) := goodIn_app (goodIn_of _ (by decide +kernel)) ggX7_rule_X1_owedInAll
set_option maxRecDepth 20000 in
theorem ggX7_rule_X1_moneyInAll : GoodIn wsX7_rule wsX1_moneyInAll := goodIn_r _ [27, 10, 28, 40, 41, 42, 43, 44, 45, 46] (by decide +kernel) (by decide +kernel)
set_option maxRecDepth 20000 in
theorem gX7_rule_X1_moneyInAll : GoodIn wsX7_rule (wsV RX7 122 RX1 yX1_moneyInAll wsX1_moneyInAll) := goodIn_app (goodIn_of _ (by decide +kernel)) ggX7_rule_X1_moneyInAll
theorem dX7_rule_0 : decode cX7_rule 0 = .ok (.iload_n 1, 1) := by decide +kernel
theorem dX7_rule_1 : decode cX7_rule 1 = .ok (.tableswitch 87 0 5 #[39, 47, 55, 63, 71, 79], 39) := by decide +kernel
theorem dX7_rule_40 : decode cX7_rule 40 = .ok (.aload_n 0, 1) := by decide +kernel
theorem dX7_rule_41 : decode cX7_rule 41 = .ok (.getfield 10, 3) := by decide +kernel
theorem dX7_rule_44 : decode cX7_rule 44 = .ok (.getfield 106, 3) := by decide +kernel
theorem dX7_rule_47 : decode cX7_rule 47 = .ok (.ireturn, 1) := by decide +kernel
theorem dX7_rule_48 : decode cX7_rule 48 = .ok (.aload_n 0, 1) := by decide +kernel
theorem dX7_rule_49 : decode cX7_rule 49 = .ok (.getfield 10, 3) := by decide +kernel
theorem dX7_rule_52 : decode cX7_rule 52 = .ok (.getfield 109, 3) := by decide +kernel
theorem dX7_rule_55 : decode cX7_rule 55 = .ok (.ireturn, 1) := by decide +kernel
theorem dX7_rule_56 : decode cX7_rule 56 = .ok (.aload_n 0, 1) := by decide +kernel
theorem dX7_rule_57 : decode cX7_rule 57 = .ok (.getfield 10, 3) := by decide +kernel
theorem dX7_rule_60 : decode cX7_rule 60 = .ok (.getfield 112, 3) := by decide +kernel
theorem dX7_rule_63 : decode cX7_rule 63 = .ok (.ireturn, 1) := by decide +kernel
theorem dX7_rule_64 : decode cX7_rule 64 = .ok (.aload_n 0, 1) := by decide +kernel
theorem dX7_rule_65 : decode cX7_rule 65 = .ok (.getfield 10, 3) := by decide +kernel
theorem dX7_rule_68 : decode cX7_rule 68 = .ok (.invokevirtual 115, 3) := by decide +kernel
theorem dX7_rule_71 : decode cX7_rule 71 = .ok (.ireturn, 1) := by decide +kernel
theorem dX7_rule_72 : decode cX7_rule 72 = .ok (.aload_n 0, 1) := by decide +kernel
theorem dX7_rule_73 : decode cX7_rule 73 = .ok (.getfield 10, 3) := by decide +kernel
theorem dX7_rule_76 : decode cX7_rule 76 = .ok (.invokevirtual 119, 3) := by decide +kernel
theorem dX7_rule_79 : decode cX7_rule 79 = .ok (.ireturn, 1) := by decide +kernel
theorem dX7_rule_80 : decode cX7_rule 80 = .ok (.aload_n 0, 1) := by decide +kernel
theorem dX7_rule_81 : decode cX7_rule 81 = .ok (.getfield 10, 3) := by decide +kernel
theorem dX7_rule_84 : decode cX7_rule 84 = .ok (.invokevirtual 122, 3) := by decide +kernel
theorem dX7_rule_87 : decode cX7_rule 87 = .ok (.ireturn, 1) := by decide +kernel
theorem dX7_rule_88 : decode cX7_rule 88 = .ok (.iconst (-1), 1) := by decide +kernel
theorem dX7_rule_89 : decode cX7_rule 89 = .ok (.ireturn, 1) := by decide +kernel
set_option maxRecDepth 20000 in
theorem ggX7_one_X1_has : GoodIn wsX7_one wsX1_has := goodIn_r _ [9, 10, 51, 52, 53, 54, 55, 56, 57] (by decide +kernel) (by decide +kernel)
set_option maxRecDepth 20000 in
theorem gX7_one_X1_has : GoodIn wsX7_one (wsV RX7 125 RX1 yX1_has wsX1_has) := goodIn_app (goodIn_of _ (by decide +kernel)) ggX7_one_X1_has
set_option maxRecDepth 20000 in
theorem ggX7_one_X1_owedBy : GoodIn wsX7_one wsX1_owedBy := goodIn_r _ [14, 10, 15, 51, 52, 53, 54, 55, 56, 57] (by decide +kernel) (by decide +kernel)
set_option maxRecDepth 20000 in
theorem gX7_one_X1_owedBy : GoodIn wsX7_one (wsV RX7 138 RX1 yX1_owedBy wsX1_owedBy) := goodIn_app (goodIn_of _ (by decide +kernel)) ggX7_one_X1_owedBy
set_option maxRecDepth 20000 in
theorem ggX7_one_X1_owedTo : GoodIn wsX7_one wsX1_owedTo := goodIn_r _ [19, 10, 15, 51, 52, 53, 54, 55, 56, 57] (by decide +kernel) (by decide +kernel)
set_option maxRecDepth 20000 in
theorem gX7_one_X1_owedTo : GoodIn wsX7_one (wsV RX7 142 RX1 yX1_owedTo wsX1_owedTo) := goodIn_app (goodIn_of _ (by decide +kernel)) ggX7_one_X1_owedTo
set_option maxRecDepth 20000 in
theorem ggX7_one_X1_heightOf : GoodIn wsX7_one wsX1_heightOf := goodIn_r _ [23, 24, 25, 26, 27, 28, 29, 30, 31, 8, 32, 33, 12, 13, 14, 10, 15, 34, 17, 18, 19, 51, 52, 53, 54, 55, 56, 57] (by decide +kernel) (by decide +kernel)
set_option maxRecDepth 20000 in
theorem gX7_one_X1_heightOf : GoodIn wsX7_one (wsV RX7 145 RX1 yX1_heightOf wsX1_heightOf) := goodIn_app (goodIn_of _ (by decide +kernel)) ggX7_one_X1_heightOf
set_option maxRecDepth 20000 in
theorem ggX7_one_X1_willOf : GoodIn wsX7_one wsX1_willOf := goodIn_r _ [38, 24, 39, 33, 12, 13, 8, 14, 10, 15, 51, 52, 53, 54, 55, 56, 57] (by decide +kernel) (by decide +kernel)
set_option maxRecDepth 20000 in
theorem gX7_one_X1_willOf : GoodIn wsX7_one (wsV RX7 148 RX1 yX1_willOf wsX1_willOf) := goodIn_app (goodIn_of _ (by decide +kernel)) ggX7_one_X1_willOf
theorem dX7_one_0 : decode cX7_one 0 = .ok (.aload_n 0, 1) := by decide +kernel
theorem dX7_one_1 : decode cX7_one 1 = .ok (.getfield 10, 3) := by decide +kernel
theorem dX7_one_4 : decode cX7_one 4 = .ok (.iload_n 1, 1) := by decide +kernel
theorem dX7_one_5 : decode cX7_one 5 = .ok (.invokevirtual 125, 3) := by decide +kernel
theorem dX7_one_8 : decode cX7_one 8 = .ok (.ifCond .ne 5, 3) := by decide +kernel
theorem dX7_one_11 : decode cX7_one 11 = .ok (.iconst (-1), 1) := by decide +kernel
theorem dX7_one_12 : decode cX7_one 12 = .ok (.ireturn, 1) := by decide +kernel
theorem dX7_one_13 : decode cX7_one 13 = .ok (.iload_n 2, 1) := by decide +kernel
theorem dX7_one_14 : decode cX7_one 14 = .ok (.tableswitch 108 0 6 #[42, 52, 62, 72, 81, 90, 99], 42) := by decide +kernel
theorem dX7_one_56 : decode cX7_one 56 = .ok (.aload_n 0, 1) := by decide +kernel
theorem dX7_one_57 : decode cX7_one 57 = .ok (.getfield 10, 3) := by decide +kernel
theorem dX7_one_60 : decode cX7_one 60 = .ok (.getfield 129, 3) := by decide +kernel
theorem dX7_one_63 : decode cX7_one 63 = .ok (.iload_n 1, 1) := by decide +kernel
theorem dX7_one_64 : decode cX7_one 64 = .ok (.iaload, 1) := by decide +kernel
theorem dX7_one_65 : decode cX7_one 65 = .ok (.ireturn, 1) := by decide +kernel
theorem dX7_one_66 : decode cX7_one 66 = .ok (.aload_n 0, 1) := by decide +kernel
theorem dX7_one_67 : decode cX7_one 67 = .ok (.getfield 10, 3) := by decide +kernel
theorem dX7_one_70 : decode cX7_one 70 = .ok (.getfield 132, 3) := by decide +kernel
theorem dX7_one_73 : decode cX7_one 73 = .ok (.iload_n 1, 1) := by decide +kernel
theorem dX7_one_74 : decode cX7_one 74 = .ok (.iaload, 1) := by decide +kernel
theorem dX7_one_75 : decode cX7_one 75 = .ok (.ireturn, 1) := by decide +kernel
theorem dX7_one_76 : decode cX7_one 76 = .ok (.aload_n 0, 1) := by decide +kernel
theorem dX7_one_77 : decode cX7_one 77 = .ok (.getfield 10, 3) := by decide +kernel
theorem dX7_one_80 : decode cX7_one 80 = .ok (.getfield 135, 3) := by decide +kernel
theorem dX7_one_83 : decode cX7_one 83 = .ok (.iload_n 1, 1) := by decide +kernel
theorem dX7_one_84 : decode cX7_one 84 = .ok (.iaload, 1) := by decide +kernel
theorem dX7_one_85 : decode cX7_one 85 = .ok (.ireturn, 1) := by decide +kernel
theorem dX7_one_86 : decode cX7_one 86 = .ok (.aload_n 0, 1) := by decide +kernel
theorem dX7_one_87 : decode cX7_one 87 = .ok (.getfield 10, 3) := by decide +kernel
theorem dX7_one_90 : decode cX7_one 90 = .ok (.iload_n 1, 1) := by decide +kernel
theorem dX7_one_91 : decode cX7_one 91 = .ok (.invokevirtual 138, 3) := by decide +kernel
theorem dX7_one_94 : decode cX7_one 94 = .ok (.ireturn, 1) := by decide +kernel
theorem dX7_one_95 : decode cX7_one 95 = .ok (.aload_n 0, 1) := by decide +kernel
theorem dX7_one_96 : decode cX7_one 96 = .ok (.getfield 10, 3) := by decide +kernel
theorem dX7_one_99 : decode cX7_one 99 = .ok (.iload_n 1, 1) := by decide +kernel
theorem dX7_one_100 : decode cX7_one 100 = .ok (.invokevirtual 142, 3) := by decide +kernel
theorem dX7_one_103 : decode cX7_one 103 = .ok (.ireturn, 1) := by decide +kernel
theorem dX7_one_104 : decode cX7_one 104 = .ok (.aload_n 0, 1) := by decide +kernel
theorem dX7_one_105 : decode cX7_one 105 = .ok (.getfield 10, 3) := by decide +kernel
theorem dX7_one_108 : decode cX7_one 108 = .ok (.iload_n 1, 1) := by decide +kernel
theorem dX7_one_109 : decode cX7_one 109 = .ok (.invokevirtual 145, 3) := by decide +kernel
theorem dX7_one_112 : decode cX7_one 112 = .ok (.ireturn, 1) := by decide +kernel
theorem dX7_one_113 : decode cX7_one 113 = .ok (.aload_n 0, 1) := by decide +kernel
theorem dX7_one_114 : decode cX7_one 114 = .ok (.getfield 10, 3) := by decide +kernel
theorem dX7_one_117 : decode cX7_one 117 = .ok (.iload_n 1, 1) := by decide +kernel
theorem dX7_one_118 : decode cX7_one 118 = .ok (.invokevirtual 148, 3) := by decide +kernel
theorem dX7_one_121 : decode cX7_one 121 = .ok (.ireturn, 1) := by decide +kernel
theorem dX7_one_122 : decode cX7_one 122 = .ok (.iconst (-1), 1) := by decide +kernel
theorem dX7_one_123 : decode cX7_one 123 = .ok (.ireturn, 1) := by decide +kernel
set_option maxRecDepth 20000 in
theorem ggX7_owes_X1_hasPair : GoodIn wsX7_owes wsX1_hasPair := goodIn_r _ [6, 7, 8, 9, 5, 10, 11, 28, 29, 30, 31, 32, 33, 34] (by decide +kernel) (by decide +kernel)
set_option maxRecDepth 20000 in
theorem gX7_owes_X1_hasPair : GoodIn wsX7_owes (wsV RX7 151 RX1 yX1_hasPair wsX1_hasPair) := goodIn_app (goodIn_of _ (by decide +kernel)) ggX7_owes_X1_hasPair
set_option maxRecDepth 20000 in
theorem ggX7_owes_X1_debt : GoodIn wsX7_owes wsX1_debt := goodIn_r _ [15, 16, 28, 29, 30, 31, 32, 33, 34] (by decide +kernel) (by decide +kernel)
set_option maxRecDepth 20000 in
theorem gX7_owes_X1_debt : GoodIn wsX7_owes (wsV RX7 155 RX1 yX1_debt wsX1_debt) := goodIn_app (goodIn_of _ (by decide +kernel)) ggX7_owes_X1_debt
theorem dX7_owes_0 : decode cX7_owes 0 = .ok (.aload_n 0, 1) := by decide +kernel
theorem dX7_owes_1 : decode cX7_owes 1 = .ok (.getfield 10, 3) := by decide +kernel
theorem dX7_owes_4 : decode cX7_owes 4 = .ok (.iload_n 1, 1) := by decide +kernel
theorem dX7_owes_5 : decode cX7_owes 5 = .ok (.iload_n 2, 1) := by decide +kernel
theorem dX7_owes_6 : decode cX7_owes 6 = .ok (.invokevirtual 151, 3) := by decide +kernel
theorem dX7_owes_9 : decode cX7_owes 9 = .ok (.ifCond .ne 5, 3) := by decide +kernel
theorem dX7_owes_12 : decode cX7_owes 12 = .ok (.iconst (-1), 1) := by decide +kernel
theorem dX7_owes_13 : decode cX7_owes 13 = .ok (.ireturn, 1) := by decide +kernel
theorem dX7_owes_14 : decode cX7_owes 14 = .ok (.aload_n 0, 1) := by decide +kernel
theorem dX7_owes_15 : decode cX7_owes 15 = .ok (.getfield 10, 3) := by decide +kernel
theorem dX7_owes_18 : decode cX7_owes 18 = .ok (.iload_n 1, 1) := by decide +kernel
theorem dX7_owes_19 : decode cX7_owes 19 = .ok (.iload_n 2, 1) := by decide +kernel
theorem dX7_owes_20 : decode cX7_owes 20 = .ok (.invokevirtual 155, 3) := by decide +kernel
theorem dX7_owes_23 : decode cX7_owes 23 = .ok (.ireturn, 1) := by decide +kernel
set_option maxRecDepth 20000 in
theorem ggX7_meet_X1_hasPair : GoodIn wsX7_meet wsX1_hasPair := goodIn_r _ [6, 7, 8, 9, 5, 10, 11, 45, 46, 47, 48, 49, 50, 51] (by decide +kernel) (by decide +kernel)
set_option maxRecDepth 20000 in
theorem gX7_meet_X1_hasPair : GoodIn wsX7_meet (wsV RX7 151 RX1 yX1_hasPair wsX1_hasPair) := goodIn_app (goodIn_of _ (by decide +kernel)) ggX7_meet_X1_hasPair
set_option maxRecDepth 20000 in
theorem ggX7_meet_X1_heightOf : GoodIn wsX7_meet wsX1_heightOf := goodIn_r _ [15, 16, 17, 18, 19, 20, 21, 22, 23, 5, 24, 25, 26, 27, 28, 11, 29, 30, 31, 32, 33, 45, 46, 47, 48, 49, 50, 51] (by decide +kernel) (by decide +kernel)
set_option maxRecDepth 20000 in
theorem gX7_meet_X1_heightOf : GoodIn wsX7_meet (wsV RX7 145 RX1 yX1_heightOf wsX1_heightOf) := goodIn_app (goodIn_of _ (by decide +kernel)) ggX7_meet_X1_heightOf
theorem dX7_meet_0 : decode cX7_meet 0 = .ok (.aload_n 0, 1) := by decide +kernel
theorem dX7_meet_1 : decode cX7_meet 1 = .ok (.getfield 10, 3) := by decide +kernel
theorem dX7_meet_4 : decode cX7_meet 4 = .ok (.iload_n 1, 1) := by decide +kernel
theorem dX7_meet_5 : decode cX7_meet 5 = .ok (.iload_n 2, 1) := by decide +kernel
theorem dX7_meet_6 : decode cX7_meet 6 = .ok (.invokevirtual 151, 3) := by decide +kernel
theorem dX7_meet_9 : decode cX7_meet 9 = .ok (.ifCond .ne 5, 3) := by decide +kernel
theorem dX7_meet_12 : decode cX7_meet 12 = .ok (.iconst (-1), 1) := by decide +kernel
theorem dX7_meet_13 : decode cX7_meet 13 = .ok (.ireturn, 1) := by decide +kernel
theorem dX7_meet_14 : decode cX7_meet 14 = .ok (.aload_n 0, 1) := by decide +kernel
theorem dX7_meet_15 : decode cX7_meet 15 = .ok (.getfield 10, 3) := by decide +kernel
theorem dX7_meet_18 : decode cX7_meet 18 = .ok (.iload_n 1, 1) := by decide +kernel
theorem dX7_meet_19 : decode cX7_meet 19 = .ok (.invokevirtual 145, 3) := by decide +kernel
theorem dX7_meet_22 : decode cX7_meet 22 = .ok (.istore_n 3, 1) := by decide +kernel
theorem dX7_meet_23 : decode cX7_meet 23 = .ok (.aload_n 0, 1) := by decide +kernel
theorem dX7_meet_24 : decode cX7_meet 24 = .ok (.getfield 10, 3) := by decide +kernel
theorem dX7_meet_27 : decode cX7_meet 27 = .ok (.iload_n 2, 1) := by decide +kernel
theorem dX7_meet_28 : decode cX7_meet 28 = .ok (.invokevirtual 145, 3) := by decide +kernel
theorem dX7_meet_31 : decode cX7_meet 31 = .ok (.istore 4, 2) := by decide +kernel
theorem dX7_meet_33 : decode cX7_meet 33 = .ok (.iload_n 3, 1) := by decide +kernel
theorem dX7_meet_34 : decode cX7_meet 34 = .ok (.iload 4, 2) := by decide +kernel
theorem dX7_meet_36 : decode cX7_meet 36 = .ok (.if_icmp .ne 6, 3) := by decide +kernel
theorem dX7_meet_39 : decode cX7_meet 39 = .ok (.bipush (-4), 2) := by decide +kernel
theorem dX7_meet_41 : decode cX7_meet 41 = .ok (.ireturn, 1) := by decide +kernel
theorem dX7_meet_42 : decode cX7_meet 42 = .ok (.iload_n 3, 1) := by decide +kernel
theorem dX7_meet_43 : decode cX7_meet 43 = .ok (.iload 4, 2) := by decide +kernel
theorem dX7_meet_45 : decode cX7_meet 45 = .ok (.if_icmp .ge 7, 3) := by decide +kernel
theorem dX7_meet_48 : decode cX7_meet 48 = .ok (.iload_n 1, 1) := by decide +kernel
theorem dX7_meet_49 : decode cX7_meet 49 = .ok (.goto 4, 3) := by decide +kernel
theorem dX7_meet_52 : decode cX7_meet 52 = .ok (.iload_n 2, 1) := by decide +kernel
theorem dX7_meet_53 : decode cX7_meet 53 = .ok (.ireturn, 1) := by decide +kernel
set_option maxRecDepth 20000 in
theorem ggX7_alter_X1_has : GoodIn wsX7_alter wsX1_has := goodIn_r _ [9, 10, 29, 30, 31, 32, 33, 34, 35] (by decide +kernel) (by decide +kernel)
set_option maxRecDepth 20000 in
theorem gX7_alter_X1_has : GoodIn wsX7_alter (wsV RX7 125 RX1 yX1_has wsX1_has) := goodIn_app (goodIn_of _ (by decide +kernel)) ggX7_alter_X1_has
set_option maxRecDepth 20000 in
theorem ggX7_alter_X7_swap : GoodIn wsX7_alter wsX7_swap := goodIn_r _ [14, 15, 16, 13, 17] (by decide +kernel) (by decide +kernel)
set_option maxRecDepth 20000 in
theorem gX7_alter_X7_swap : GoodIn wsX7_alter (va_wsS RX7 159 yX7_swap wsX7_swap) := goodIn_app (goodIn_of _ (by decide +kernel)) ggX7_alter_X7_swap
theorem dX7_alter_0 : decode cX7_alter 0 = .ok (.aload_n 0, 1) := by decide +kernel
theorem dX7_alter_1 : decode cX7_alter 1 = .ok (.getfield 10, 3) := by decide +kernel
theorem dX7_alter_4 : decode cX7_alter 4 = .ok (.iload_n 1, 1) := by decide +kernel
theorem dX7_alter_5 : decode cX7_alter 5 = .ok (.invokevirtual 125, 3) := by decide +kernel
theorem dX7_alter_8 : decode cX7_alter 8 = .ok (.ifCond .ne 5, 3) := by decide +kernel
theorem dX7_alter_11 : decode cX7_alter 11 = .ok (.iconst (-1), 1) := by decide +kernel
theorem dX7_alter_12 : decode cX7_alter 12 = .ok (.ireturn, 1) := by decide +kernel
theorem dX7_alter_13 : decode cX7_alter 13 = .ok (.iload_n 2, 1) := by decide +kernel
theorem dX7_alter_14 : decode cX7_alter 14 = .ok (.tableswitch 71 0 2 #[26, 40, 56], 26) := by decide +kernel
theorem dX7_alter_40 : decode cX7_alter 40 = .ok (.aload_n 0, 1) := by decide +kernel
theorem dX7_alter_41 : decode cX7_alter 41 = .ok (.getfield 10, 3) := by decide +kernel
theorem dX7_alter_44 : decode cX7_alter 44 = .ok (.getfield 129, 3) := by decide +kernel
theorem dX7_alter_47 : decode cX7_alter 47 = .ok (.iload_n 1, 1) := by decide +kernel
theorem dX7_alter_48 : decode cX7_alter 48 = .ok (.iload_n 3, 1) := by decide +kernel
theorem dX7_alter_49 : decode cX7_alter 49 = .ok (.iconst 3, 1) := by decide +kernel
theorem dX7_alter_50 : decode cX7_alter 50 = .ok (.invokestatic 159, 3) := by decide +kernel
theorem dX7_alter_53 : decode cX7_alter 53 = .ok (.ireturn, 1) := by decide +kernel
theorem dX7_alter_54 : decode cX7_alter 54 = .ok (.aload_n 0, 1) := by decide +kernel
theorem dX7_alter_55 : decode cX7_alter 55 = .ok (.getfield 10, 3) := by decide +kernel
theorem dX7_alter_58 : decode cX7_alter 58 = .ok (.getfield 132, 3) := by decide +kernel
theorem dX7_alter_61 : decode cX7_alter 61 = .ok (.iload_n 1, 1) := by decide +kernel
theorem dX7_alter_62 : decode cX7_alter 62 = .ok (.iload_n 3, 1) := by decide +kernel
theorem dX7_alter_63 : decode cX7_alter 63 = .ok (.sipush 999, 3) := by decide +kernel
theorem dX7_alter_66 : decode cX7_alter 66 = .ok (.invokestatic 159, 3) := by decide +kernel
theorem dX7_alter_69 : decode cX7_alter 69 = .ok (.ireturn, 1) := by decide +kernel
theorem dX7_alter_70 : decode cX7_alter 70 = .ok (.aload_n 0, 1) := by decide +kernel
theorem dX7_alter_71 : decode cX7_alter 71 = .ok (.getfield 10, 3) := by decide +kernel
theorem dX7_alter_74 : decode cX7_alter 74 = .ok (.getfield 135, 3) := by decide +kernel
theorem dX7_alter_77 : decode cX7_alter 77 = .ok (.iload_n 1, 1) := by decide +kernel
theorem dX7_alter_78 : decode cX7_alter 78 = .ok (.iload_n 3, 1) := by decide +kernel
theorem dX7_alter_79 : decode cX7_alter 79 = .ok (.bipush 9, 2) := by decide +kernel
theorem dX7_alter_81 : decode cX7_alter 81 = .ok (.invokestatic 159, 3) := by decide +kernel
theorem dX7_alter_84 : decode cX7_alter 84 = .ok (.ireturn, 1) := by decide +kernel
theorem dX7_alter_85 : decode cX7_alter 85 = .ok (.iconst (-1), 1) := by decide +kernel
theorem dX7_alter_86 : decode cX7_alter 86 = .ok (.ireturn, 1) := by decide +kernel
set_option maxRecDepth 20000 in
theorem ggX7_bond_X1_hasPair : GoodIn wsX7_bond wsX1_hasPair := goodIn_r _ [6, 7, 8, 9, 5, 10, 11, 36, 37, 38, 39, 40, 41, 42] (by decide +kernel) (by decide +kernel)
set_option maxRecDepth 20000 in
theorem gX7_bond_X1_hasPair : GoodIn wsX7_bond (wsV RX7 151 RX1 yX1_hasPair wsX1_hasPair) := goodIn_app (goodIn_of _ (by decide +kernel)) ggX7_bond_X1_hasPair
set_option maxRecDepth 20000 in
theorem ggX7_bond_X7_within : GoodIn wsX7_bond wsX7_within := goodIn_r _ [15] (by decide +kernel) (by decide +kernel)
set_option maxRecDepth 20000 in
theorem gX7_bond_X7_within : GoodIn wsX7_bond (va_wsS RX7 65 yX7_within wsX7_within) := goodIn_app (goodIn_of _ (by decide +kernel)) ggX7_bond_X7_within
set_option maxRecDepth 20000 in
theorem ggX7_bond_X1_debt : GoodIn wsX7_bond wsX1_debt := goodIn_r _ [19, 20, 36, 37, 38, 39, 40, 41, 42] (by decide +kernel) (by decide +kernel)
set_option maxRecDepth 20000 in
theorem gX7_bond_X1_debt : GoodIn wsX7_bond (wsV RX7 155 RX1 yX1_debt wsX1_debt) := goodIn_app (goodIn_of _ (by decide +kernel)) ggX7_bond_X1_debt
set_option maxRecDepth 20000 in
theorem ggX7_bond_X1_setDebt : GoodIn wsX7_bond wsX1_setDebt := goodIn_r _ [24, 20, 36, 37, 38, 39, 40, 41, 42] (by decide +kernel) (by decide +kernel)
set_option maxRecDepth 20000 in
theorem gX7_bond_X1_setDebt : GoodIn wsX7_bond (wsV RX7 163 RX1 yX1_setDebt wsX1_setDebt) := goodIn_app (goodIn_of _ (by decide +kernel)) ggX7_bond_X1_setDebt
theorem dX7_bond_0 : decode cX7_bond 0 = .ok (.aload_n 0, 1) := by decide +kernel
theorem dX7_bond_1 : decode cX7_bond 1 = .ok (.getfield 10, 3) := by decide +kernel
theorem dX7_bond_4 : decode cX7_bond 4 = .ok (.iload_n 1, 1) := by decide +kernel
theorem dX7_bond_5 : decode cX7_bond 5 = .ok (.iload_n 2, 1) := by decide +kernel
theorem dX7_bond_6 : decode cX7_bond 6 = .ok (.invokevirtual 151, 3) := by decide +kernel
theorem dX7_bond_9 : decode cX7_bond 9 = .ok (.ifCond .eq 13, 3) := by decide +kernel
theorem dX7_bond_12 : decode cX7_bond 12 = .ok (.iload_n 3, 1) := by decide +kernel
theorem dX7_bond_13 : decode cX7_bond 13 = .ok (.iconst 0, 1) := by decide +kernel
theorem dX7_bond_14 : decode cX7_bond 14 = .ok (.bipush 99, 2) := by decide +kernel
theorem dX7_bond_16 : decode cX7_bond 16 = .ok (.invokestatic 65, 3) := by decide +kernel
theorem dX7_bond_19 : decode cX7_bond 19 = .ok (.ifCond .ne 5, 3) := by decide +kernel
theorem dX7_bond_22 : decode cX7_bond 22 = .ok (.iconst (-1), 1) := by decide +kernel
theorem dX7_bond_23 : decode cX7_bond 23 = .ok (.ireturn, 1) := by decide +kernel
theorem dX7_bond_24 : decode cX7_bond 24 = .ok (.aload_n 0, 1) := by decide +kernel
theorem dX7_bond_25 : decode cX7_bond 25 = .ok (.getfield 10, 3) := by decide +kernel
theorem dX7_bond_28 : decode cX7_bond 28 = .ok (.iload_n 1, 1) := by decide +kernel
theorem dX7_bond_29 : decode cX7_bond 29 = .ok (.iload_n 2, 1) := by decide +kernel
theorem dX7_bond_30 : decode cX7_bond 30 = .ok (.invokevirtual 155, 3) := by decide +kernel
theorem dX7_bond_33 : decode cX7_bond 33 = .ok (.istore 4, 2) := by decide +kernel
theorem dX7_bond_35 : decode cX7_bond 35 = .ok (.aload_n 0, 1) := by decide +kernel
theorem dX7_bond_36 : decode cX7_bond 36 = .ok (.getfield 10, 3) := by decide +kernel
theorem dX7_bond_39 : decode cX7_bond 39 = .ok (.iload_n 1, 1) := by decide +kernel
theorem dX7_bond_40 : decode cX7_bond 40 = .ok (.iload_n 2, 1) := by decide +kernel
theorem dX7_bond_41 : decode cX7_bond 41 = .ok (.iload_n 3, 1) := by decide +kernel
theorem dX7_bond_42 : decode cX7_bond 42 = .ok (.invokevirtual 163, 3) := by decide +kernel
theorem dX7_bond_45 : decode cX7_bond 45 = .ok (.iload 4, 2) := by decide +kernel
theorem dX7_bond_47 : decode cX7_bond 47 = .ok (.ireturn, 1) := by decide +kernel
set_option maxRecDepth 20000 in
theorem ggX7_dry_X7_within : GoodIn wsX7_dry wsX7_within := goodIn_r _ [6] (by decide +kernel) (by decide +kernel)
set_option maxRecDepth 20000 in
theorem gX7_dry_X7_within : GoodIn wsX7_dry (va_wsS RX7 65 yX7_within wsX7_within) := goodIn_app (goodIn_of _ (by decide +kernel)) ggX7_dry_X7_within
theorem dX7_dry_0 : decode cX7_dry 0 = .ok (.iload_n 1, 1) := by decide +kernel
theorem dX7_dry_1 : decode cX7_dry 1 = .ok (.iconst 0, 1) := by decide +kernel
theorem dX7_dry_2 : decode cX7_dry 2 = .ok (.bipush 9, 2) := by decide +kernel
theorem dX7_dry_4 : decode cX7_dry 4 = .ok (.invokestatic 65, 3) := by decide +kernel
theorem dX7_dry_7 : decode cX7_dry 7 = .ok (.ifCond .ne 5, 3) := by decide +kernel
theorem dX7_dry_10 : decode cX7_dry 10 = .ok (.iconst (-1), 1) := by decide +kernel
theorem dX7_dry_11 : decode cX7_dry 11 = .ok (.ireturn, 1) := by decide +kernel
theorem dX7_dry_12 : decode cX7_dry 12 = .ok (.aload_n 0, 1) := by decide +kernel
theorem dX7_dry_13 : decode cX7_dry 13 = .ok (.getfield 10, 3) := by decide +kernel
theorem dX7_dry_16 : decode cX7_dry 16 = .ok (.getfield 112, 3) := by decide +kernel
theorem dX7_dry_19 : decode cX7_dry 19 = .ok (.istore_n 2, 1) := by decide +kernel
theorem dX7_dry_20 : decode cX7_dry 20 = .ok (.aload_n 0, 1) := by decide +kernel
theorem dX7_dry_21 : decode cX7_dry 21 = .ok (.getfield 10, 3) := by decide +kernel
theorem dX7_dry_24 : decode cX7_dry 24 = .ok (.iload_n 1, 1) := by decide +kernel
theorem dX7_dry_25 : decode cX7_dry 25 = .ok (.putfield 112, 3) := by decide +kernel
theorem dX7_dry_28 : decode cX7_dry 28 = .ok (.iload_n 2, 1) := by decide +kernel
theorem dX7_dry_29 : decode cX7_dry 29 = .ok (.ireturn, 1) := by decide +kernel
set_option maxRecDepth 20000 in
theorem ggX7_lend_X1_lendTo : GoodIn wsX7_lend wsX1_lendTo := goodIn_r _ [6, 7, 8, 9, 10, 5, 11, 12, 13, 14, 15, 16, 17, 18, 19, 20, 21, 22, 23, 24, 25, 26, 27, 28, 40, 41, 42, 43, 44, 45, 46] (by decide +kernel) (by decide +kernel)
set_option maxRecDepth 20000 in
theorem gX7_lend_X1_lendTo : GoodIn wsX7_lend (wsV RX7 167 RX1 yX1_lendTo wsX1_lendTo) := goodIn_app (goodIn_of _ (by decide +kernel)) ggX7_lend_X1_lendTo
theorem dX7_lend_0 : decode cX7_lend 0 = .ok (.aload_n 0, 1) := by decide +kernel
theorem dX7_lend_1 : decode cX7_lend 1 = .ok (.getfield 10, 3) := by decide +kernel
theorem dX7_lend_4 : decode cX7_lend 4 = .ok (.iload_n 1, 1) := by decide +kernel
theorem dX7_lend_5 : decode cX7_lend 5 = .ok (.iload_n 2, 1) := by decide +kernel
theorem dX7_lend_6 : decode cX7_lend 6 = .ok (.iload_n 3, 1) := by decide +kernel
theorem dX7_lend_7 : decode cX7_lend 7 = .ok (.invokevirtual 167, 3) := by decide +kernel
theorem dX7_lend_10 : decode cX7_lend 10 = .ok (.ireturn, 1) := by decide +kernel
set_option maxRecDepth 20000 in
theorem ggX7_pay_X1_payTo : GoodIn wsX7_pay wsX1_payTo := goodIn_r _ [6, 7, 8, 9, 10, 5, 11, 12, 13, 14, 15, 16, 17, 18, 19, 20, 21, 22, 23, 24, 25, 26, 27, 28, 29, 30, 31, 32, 33, 34, 35, 36, 48, 49, 50, 51, 52, 53, 54] (by decide +kernel) (by decide +kernel)
set_option maxRecDepth 20000 in
theorem gX7_pay_X1_payTo : GoodIn wsX7_pay (wsV RX7 171 RX1 yX1_payTo wsX1_payTo) := goodIn_app (goodIn_of _ (by decide +kernel)) ggX7_pay_X1_payTo
theorem dX7_pay_0 : decode cX7_pay 0 = .ok (.aload_n 0, 1) := by decide +kernel
theorem dX7_pay_1 : decode cX7_pay 1 = .ok (.getfield 10, 3) := by decide +kernel
theorem dX7_pay_4 : decode cX7_pay 4 = .ok (.iload_n 1, 1) := by decide +kernel
theorem dX7_pay_5 : decode cX7_pay 5 = .ok (.iload_n 2, 1) := by decide +kernel
theorem dX7_pay_6 : decode cX7_pay 6 = .ok (.iload_n 3, 1) := by decide +kernel
theorem dX7_pay_7 : decode cX7_pay 7 = .ok (.invokevirtual 171, 3) := by decide +kernel
theorem dX7_pay_10 : decode cX7_pay 10 = .ok (.ireturn, 1) := by decide +kernel
set_option maxRecDepth 20000 in
theorem ggX7_days_X7_within : GoodIn wsX7_days wsX7_within := goodIn_r _ [6] (by decide +kernel) (by decide +kernel)
set_option maxRecDepth 20000 in
theorem gX7_days_X7_within : GoodIn wsX7_days (va_wsS RX7 65 yX7_within wsX7_within) := goodIn_app (goodIn_of _ (by decide +kernel)) ggX7_days_X7_within
set_option maxRecDepth 20000 in
theorem ggX7_days_X1_runDays : GoodIn wsX7_days wsX1_runDays := goodIn_r _ [11, 12, 13, 14, 15, 10, 16, 17, 18, 19, 20, 21, 22, 23, 24, 25, 26, 27, 28, 29, 30, 31, 32, 33, 34, 35, 36, 37, 38, 39, 40, 41, 42, 43, 44, 45, 46, 47, 48, 49, 50, 51, 52, 53, 54, 55, 56, 57, 69, 70, 71, 72, 73, 74, 75] (by decide +kernel) (by decide +kernel)
set_option maxRecDepth 20000 in
theorem gX7_days_X1_runDays : GoodIn wsX7_days (wsV RX7 174 RX1 yX1_runDays wsX1_runDays) := goodIn_app (goodIn_of _ (by decide +kernel)) ggX7_days_X1_runDays
theorem dX7_days_0 : decode cX7_days 0 = .ok (.iload_n 1, 1) := by decide +kernel
theorem dX7_days_1 : decode cX7_days 1 = .ok (.iconst 0, 1) := by decide +kernel
theorem dX7_days_2 : decode cX7_days 2 = .ok (.bipush 30, 2) := by decide +kernel
theorem dX7_days_4 : decode cX7_days 4 = .ok (.invokestatic 65, 3) := by decide +kernel
theorem dX7_days_7 : decode cX7_days 7 = .ok (.ifCond .ne 5, 3) := by decide +kernel
theorem dX7_days_10 : decode cX7_days 10 = .ok (.iconst (-1), 1) := by decide +kernel
theorem dX7_days_11 : decode cX7_days 11 = .ok (.ireturn, 1) := by decide +kernel
theorem dX7_days_12 : decode cX7_days 12 = .ok (.aload_n 0, 1) := by decide +kernel
theorem dX7_days_13 : decode cX7_days 13 = .ok (.getfield 10, 3) := by decide +kernel
theorem dX7_days_16 : decode cX7_days 16 = .ok (.getfield 109, 3) := by decide +kernel
theorem dX7_days_19 : decode cX7_days 19 = .ok (.iload_n 1, 1) := by decide +kernel
theorem dX7_days_20 : decode cX7_days 20 = .ok (.iadd, 1) := by decide +kernel
theorem dX7_days_21 : decode cX7_days 21 = .ok (.sipush 999, 3) := by decide +kernel
theorem dX7_days_24 : decode cX7_days 24 = .ok (.if_icmp .le 6, 3) := by decide +kernel
theorem dX7_days_27 : decode cX7_days 27 = .ok (.bipush (-3), 2) := by decide +kernel
theorem dX7_days_29 : decode cX7_days 29 = .ok (.ireturn, 1) := by decide +kernel
theorem dX7_days_30 : decode cX7_days 30 = .ok (.aload_n 0, 1) := by decide +kernel
theorem dX7_days_31 : decode cX7_days 31 = .ok (.getfield 10, 3) := by decide +kernel
theorem dX7_days_34 : decode cX7_days 34 = .ok (.iload_n 1, 1) := by decide +kernel
theorem dX7_days_35 : decode cX7_days 35 = .ok (.invokevirtual 174, 3) := by decide +kernel
theorem dX7_days_38 : decode cX7_days 38 = .ok (.ireturn, 1) := by decide +kernel
set_option maxRecDepth 20000 in
theorem ggX7_runs_X7_within : GoodIn wsX7_runs wsX7_within := goodIn_r _ [6] (by decide +kernel) (by decide +kernel)
set_option maxRecDepth 20000 in
theorem gX7_runs_X7_within : GoodIn wsX7_runs (va_wsS RX7 65 yX7_within wsX7_within) := goodIn_app (goodIn_of _ (by decide +kernel)) ggX7_runs_X7_within
set_option maxRecDepth 20000 in
theorem ggX7_runs_X1_become : GoodIn wsX7_runs wsX1_become := goodIn_r _ [11, 12, 13, 14, 15, 16, 17, 18, 19, 20, 21, 22, 98, 99, 100, 101, 102, 103, 104] (by decide +kernel) (by decide +kernel)
set_option maxRecDepth 20000 in
theorem gX7_runs_X1_become : GoodIn wsX7_runs (wsV RX7 92 RX1 yX1_become wsX1_become) := goodIn_app (goodIn_of _ (by decide +kernel)) ggX7_runs_X1_become
set_option maxRecDepth 20000 in
theorem ggX7_runs_X1_daysTillAllRide : GoodIn wsX7_runs wsX1_daysTillAllRide := goodIn_r _ [26, 14, 27, 28, 29, 10, 30, 12, 31, 32, 33, 34, 22, 35, 36, 37, 38, 21, 39, 40, 41, 42, 13, 43, 44, 45, 46, 20, 47, 48, 49, 50, 51, 52, 53, 54, 55, 56, 57, 15, 58, 59, 60, 61, 62, 63, 64, 65, 66, 67, 68, 69, 98, 99, 100, 101, 102, 103, 104] (by decide +kernel) (by decide +kernel)
set_option maxRecDepth 20000 in
theorem gX7_runs_X1_daysTillAllRide : GoodIn wsX7_runs (wsV RX7 177 RX1 yX1_daysTillAllRide wsX1_daysTillAllRide) := goodIn_app (goodIn_of _ (by decide +kernel)) ggX7_runs_X1_daysTillAllRide
set_option maxRecDepth 20000 in
theorem ggX7_runs_X1_runDays : GoodIn wsX7_runs wsX1_runDays := goodIn_r _ [73, 14, 35, 36, 37, 10, 38, 12, 21, 39, 40, 41, 42, 13, 43, 44, 45, 46, 20, 47, 48, 49, 50, 51, 52, 53, 54, 55, 56, 57, 15, 31, 32, 33, 34, 22, 58, 59, 60, 61, 62, 63, 64, 65, 66, 67, 68, 69, 98, 99, 100, 101, 102, 103, 104] (by decide +kernel) (by decide +kernel)
set_option maxRecDepth 20000 in
theorem gX7_runs_X1_runDays : GoodIn wsX7_runs (wsV RX7 174 RX1 yX1_runDays wsX1_runDays) := goodIn_app (goodIn_of _ (by decide +kernel)) ggX7_runs_X1_runDays
set_option maxRecDepth 20000 in
theorem ggX7_runs_X1_owedInAll : GoodIn wsX7_runs wsX1_owedInAll := goodIn_r _ [30, 12, 31, 32, 33, 10, 34, 22, 98, 99, 100, 101, 102, 103, 104] (by decide +kernel) (by decide +kernel)
set_option maxRecDepth 20000 in
theorem gX7_runs_X1_owedInAll : GoodIn wsX7_runs (wsV RX7 119 RX1 yX1_owedInAll wsX1_owedInAll) := goodIn_app (goodIn_of _ (by decide +kernel)) ggX7_runs_X1_owedInAll
set_option maxRecDepth 20000 in
theorem ggX7_runs_X1_riders : GoodIn wsX7_runs wsX1_riders := goodIn_r _ [78, 12, 79, 80, 81, 10, 82, 31, 32, 33, 34, 22, 98, 99, 100, 101, 102, 103, 104] (by decide +kernel) (by decide +kernel)
set_option maxRecDepth 20000 in
theorem gX7_runs_X1_riders : GoodIn wsX7_runs (wsV RX7 115 RX1 yX1_riders wsX1_riders) := goodIn_app (goodIn_of _ (by decide +kernel)) ggX7_runs_X1_riders
set_option maxRecDepth 20000 in
theorem ggX7_runs_X1_moneyInAll : GoodIn wsX7_runs wsX1_moneyInAll := goodIn_r _ [86, 12, 20, 98, 99, 100, 101, 102, 103, 104] (by decide +kernel) (by decide +kernel)
set_option maxRecDepth 20000 in
theorem gX7_runs_X1_moneyInAll : GoodIn wsX7_runs (wsV RX7 122 RX1 yX1_moneyInAll wsX1_moneyInAll) := goodIn_app (goodIn_of _ (by decide +kernel)) ggX7_runs_X1_moneyInAll
theorem dX7_runs_0 : decode cX7_runs 0 = .ok (.iload_n 1, 1) := by decide +kernel
theorem dX7_runs_1 : decode cX7_runs 1 = .ok (.iconst 0, 1) := by decide +kernel
theorem dX7_runs_2 : decode cX7_runs 2 = .ok (.bipush 60, 2) := by decide +kernel
theorem dX7_runs_4 : decode cX7_runs 4 = .ok (.invokestatic 65, 3) := by decide +kernel
theorem dX7_runs_7 : decode cX7_runs 7 = .ok (.ifCond .eq 12, 3) := by decide +kernel
theorem dX7_runs_10 : decode cX7_runs 10 = .ok (.iload_n 2, 1) := by decide +kernel
theorem dX7_runs_11 : decode cX7_runs 11 = .ok (.iconst 0, 1) := by decide +kernel
theorem dX7_runs_12 : decode cX7_runs 12 = .ok (.iconst 3, 1) := by decide +kernel
theorem dX7_runs_13 : decode cX7_runs 13 = .ok (.invokestatic 65, 3) := by decide +kernel
theorem dX7_runs_16 : decode cX7_runs 16 = .ok (.ifCond .ne 5, 3) := by decide +kernel
theorem dX7_runs_19 : decode cX7_runs 19 = .ok (.iconst (-1), 1) := by decide +kernel
theorem dX7_runs_20 : decode cX7_runs 20 = .ok (.ireturn, 1) := by decide +kernel
theorem dX7_runs_21 : decode cX7_runs 21 = .ok (.aload_n 0, 1) := by decide +kernel
theorem dX7_runs_22 : decode cX7_runs 22 = .ok (.getfield 16, 3) := by decide +kernel
theorem dX7_runs_25 : decode cX7_runs 25 = .ok (.aload_n 0, 1) := by decide +kernel
theorem dX7_runs_26 : decode cX7_runs 26 = .ok (.getfield 10, 3) := by decide +kernel
theorem dX7_runs_29 : decode cX7_runs 29 = .ok (.invokevirtual 92, 3) := by decide +kernel
theorem dX7_runs_32 : decode cX7_runs 32 = .ok (.iload_n 2, 1) := by decide +kernel
theorem dX7_runs_33 : decode cX7_runs 33 = .ok (.iconst 3, 1) := by decide +kernel
theorem dX7_runs_34 : decode cX7_runs 34 = .ok (.if_icmp .ne 12, 3) := by decide +kernel
theorem dX7_runs_37 : decode cX7_runs 37 = .ok (.aload_n 0, 1) := by decide +kernel
theorem dX7_runs_38 : decode cX7_runs 38 = .ok (.getfield 16, 3) := by decide +kernel
theorem dX7_runs_41 : decode cX7_runs 41 = .ok (.iload_n 1, 1) := by decide +kernel
theorem dX7_runs_42 : decode cX7_runs 42 = .ok (.invokevirtual 177, 3) := by decide +kernel
theorem dX7_runs_45 : decode cX7_runs 45 = .ok (.ireturn, 1) := by decide +kernel
theorem dX7_runs_46 : decode cX7_runs 46 = .ok (.aload_n 0, 1) := by decide +kernel
theorem dX7_runs_47 : decode cX7_runs 47 = .ok (.getfield 16, 3) := by decide +kernel
theorem dX7_runs_50 : decode cX7_runs 50 = .ok (.iload_n 1, 1) := by decide +kernel
theorem dX7_runs_51 : decode cX7_runs 51 = .ok (.invokevirtual 174, 3) := by decide +kernel
theorem dX7_runs_54 : decode cX7_runs 54 = .ok (.pop, 1) := by decide +kernel
theorem dX7_runs_55 : decode cX7_runs 55 = .ok (.iload_n 2, 1) := by decide +kernel
theorem dX7_runs_56 : decode cX7_runs 56 = .ok (.ifCond .ne 11, 3) := by decide +kernel
theorem dX7_runs_59 : decode cX7_runs 59 = .ok (.aload_n 0, 1) := by decide +kernel
theorem dX7_runs_60 : decode cX7_runs 60 = .ok (.getfield 16, 3) := by decide +kernel
theorem dX7_runs_63 : decode cX7_runs 63 = .ok (.invokevirtual 119, 3) := by decide +kernel
theorem dX7_runs_66 : decode cX7_runs 66 = .ok (.ireturn, 1) := by decide +kernel
theorem dX7_runs_67 : decode cX7_runs 67 = .ok (.iload_n 2, 1) := by decide +kernel
theorem dX7_runs_68 : decode cX7_runs 68 = .ok (.iconst 1, 1) := by decide +kernel
theorem dX7_runs_69 : decode cX7_runs 69 = .ok (.if_icmp .ne 13, 3) := by decide +kernel
theorem dX7_runs_72 : decode cX7_runs 72 = .ok (.aload_n 0, 1) := by decide +kernel
theorem dX7_runs_73 : decode cX7_runs 73 = .ok (.getfield 16, 3) := by decide +kernel
theorem dX7_runs_76 : decode cX7_runs 76 = .ok (.invokevirtual 115, 3) := by decide +kernel
theorem dX7_runs_79 : decode cX7_runs 79 = .ok (.goto 10, 3) := by decide +kernel
theorem dX7_runs_82 : decode cX7_runs 82 = .ok (.aload_n 0, 1) := by decide +kernel
theorem dX7_runs_83 : decode cX7_runs 83 = .ok (.getfield 16, 3) := by decide +kernel
theorem dX7_runs_86 : decode cX7_runs 86 = .ok (.invokevirtual 122, 3) := by decide +kernel
theorem dX7_runs_89 : decode cX7_runs 89 = .ok (.ireturn, 1) := by decide +kernel
set_option maxRecDepth 20000 in
theorem ggX7_ahead_X1_has : GoodIn wsX7_ahead wsX1_has := goodIn_r _ [8, 9, 95, 96, 97, 98, 99, 100, 101] (by decide +kernel) (by decide +kernel)
set_option maxRecDepth 20000 in
theorem gX7_ahead_X1_has : GoodIn wsX7_ahead (wsV RX7 125 RX1 yX1_has wsX1_has) := goodIn_app (goodIn_of _ (by decide +kernel)) ggX7_ahead_X1_has
set_option maxRecDepth 20000 in
theorem ggX7_ahead_X7_within : GoodIn wsX7_ahead wsX7_within := goodIn_r _ [13] (by decide +kernel) (by decide +kernel)
set_option maxRecDepth 20000 in
theorem gX7_ahead_X7_within : GoodIn wsX7_ahead (va_wsS RX7 65 yX7_within wsX7_within) := goodIn_app (goodIn_of _ (by decide +kernel)) ggX7_ahead_X7_within
set_option maxRecDepth 20000 in
theorem ggX7_ahead_X1_become : GoodIn wsX7_ahead wsX1_become := goodIn_r _ [17, 9, 18, 19, 20, 21, 22, 23, 24, 25, 26, 27, 95, 96, 97, 98, 99, 100, 101] (by decide +kernel) (by decide +kernel)
set_option maxRecDepth 20000 in
theorem gX7_ahead_X1_become : GoodIn wsX7_ahead (wsV RX7 92 RX1 yX1_become wsX1_become) := goodIn_app (goodIn_of _ (by decide +kernel)) ggX7_ahead_X1_become
set_option maxRecDepth 20000 in
theorem ggX7_ahead_X1_runDays : GoodIn wsX7_ahead wsX1_runDays := goodIn_r _ [31, 19, 32, 33, 34, 7, 35, 9, 26, 36, 37, 38, 39, 18, 40, 41, 42, 43, 25, 44, 45, 46, 47, 48, 49, 50, 51, 52, 53, 54, 20, 55, 56, 57, 58, 27, 59, 60, 61, 62, 63, 64, 65, 66, 67, 68, 69, 70, 95, 96, 97, 98, 99, 100, 101] (by decide +kernel) (by decide +kernel)
set_option maxRecDepth 20000 in
theorem gX7_ahead_X1_runDays : GoodIn wsX7_ahead (wsV RX7 174 RX1 yX1_runDays wsX1_runDays) := goodIn_app (goodIn_of _ (by decide +kernel)) ggX7_ahead_X1_runDays
set_option maxRecDepth 20000 in
theorem ggX7_ahead_X1_owedBy : GoodIn wsX7_ahead wsX1_owedBy := goodIn_r _ [58, 9, 27, 95, 96, 97, 98, 99, 100, 101] (by decide +kernel) (by decide +kernel)
set_option maxRecDepth 20000 in
theorem gX7_ahead_X1_owedBy : GoodIn wsX7_ahead (wsV RX7 138 RX1 yX1_owedBy wsX1_owedBy) := goodIn_app (goodIn_of _ (by decide +kernel)) ggX7_ahead_X1_owedBy
set_option maxRecDepth 20000 in
theorem ggX7_ahead_X1_heightOf : GoodIn wsX7_ahead wsX1_heightOf := goodIn_r _ [75, 20, 36, 37, 38, 39, 76, 77, 78, 7, 79, 55, 56, 57, 58, 9, 27, 80, 81, 82, 83, 95, 96, 97, 98, 99, 100, 101] (by decide +kernel) (by decide +kernel)
set_option maxRecDepth 20000 in
theorem gX7_ahead_X1_heightOf : GoodIn wsX7_ahead (wsV RX7 145 RX1 yX1_heightOf wsX1_heightOf) := goodIn_app (goodIn_of _ (by decide +kernel)) ggX7_ahead_X1_heightOf
theorem dX7_ahead_0 : decode cX7_ahead 0 = .ok (.aload_n 0, 1) := by decide +kernel
theorem dX7_ahead_1 : decode cX7_ahead 1 = .ok (.getfield 10, 3) := by decide +kernel
theorem dX7_ahead_4 : decode cX7_ahead 4 = .ok (.iload_n 1, 1) := by decide +kernel
theorem dX7_ahead_5 : decode cX7_ahead 5 = .ok (.invokevirtual 125, 3) := by decide +kernel
theorem dX7_ahead_8 : decode cX7_ahead 8 = .ok (.ifCond .eq 22, 3) := by decide +kernel
theorem dX7_ahead_11 : decode cX7_ahead 11 = .ok (.iload_n 2, 1) := by decide +kernel
theorem dX7_ahead_12 : decode cX7_ahead 12 = .ok (.iconst 0, 1) := by decide +kernel
theorem dX7_ahead_13 : decode cX7_ahead 13 = .ok (.bipush 60, 2) := by decide +kernel
theorem dX7_ahead_15 : decode cX7_ahead 15 = .ok (.invokestatic 65, 3) := by decide +kernel
theorem dX7_ahead_18 : decode cX7_ahead 18 = .ok (.ifCond .eq 12, 3) := by decide +kernel
theorem dX7_ahead_21 : decode cX7_ahead 21 = .ok (.iload_n 3, 1) := by decide +kernel
theorem dX7_ahead_22 : decode cX7_ahead 22 = .ok (.iconst 0, 1) := by decide +kernel
theorem dX7_ahead_23 : decode cX7_ahead 23 = .ok (.iconst 2, 1) := by decide +kernel
theorem dX7_ahead_24 : decode cX7_ahead 24 = .ok (.invokestatic 65, 3) := by decide +kernel
theorem dX7_ahead_27 : decode cX7_ahead 27 = .ok (.ifCond .ne 5, 3) := by decide +kernel
theorem dX7_ahead_30 : decode cX7_ahead 30 = .ok (.iconst (-1), 1) := by decide +kernel
theorem dX7_ahead_31 : decode cX7_ahead 31 = .ok (.ireturn, 1) := by decide +kernel
theorem dX7_ahead_32 : decode cX7_ahead 32 = .ok (.aload_n 0, 1) := by decide +kernel
theorem dX7_ahead_33 : decode cX7_ahead 33 = .ok (.getfield 16, 3) := by decide +kernel
theorem dX7_ahead_36 : decode cX7_ahead 36 = .ok (.aload_n 0, 1) := by decide +kernel
theorem dX7_ahead_37 : decode cX7_ahead 37 = .ok (.getfield 10, 3) := by decide +kernel
theorem dX7_ahead_40 : decode cX7_ahead 40 = .ok (.invokevirtual 92, 3) := by decide +kernel
theorem dX7_ahead_43 : decode cX7_ahead 43 = .ok (.aload_n 0, 1) := by decide +kernel
theorem dX7_ahead_44 : decode cX7_ahead 44 = .ok (.getfield 16, 3) := by decide +kernel
theorem dX7_ahead_47 : decode cX7_ahead 47 = .ok (.iload_n 2, 1) := by decide +kernel
theorem dX7_ahead_48 : decode cX7_ahead 48 = .ok (.invokevirtual 174, 3) := by decide +kernel
theorem dX7_ahead_51 : decode cX7_ahead 51 = .ok (.pop, 1) := by decide +kernel
theorem dX7_ahead_52 : decode cX7_ahead 52 = .ok (.iload_n 3, 1) := by decide +kernel
theorem dX7_ahead_53 : decode cX7_ahead 53 = .ok (.ifCond .ne 12, 3) := by decide +kernel
theorem dX7_ahead_56 : decode cX7_ahead 56 = .ok (.aload_n 0, 1) := by decide +kernel
theorem dX7_ahead_57 : decode cX7_ahead 57 = .ok (.getfield 16, 3) := by decide +kernel
theorem dX7_ahead_60 : decode cX7_ahead 60 = .ok (.iload_n 1, 1) := by decide +kernel
theorem dX7_ahead_61 : decode cX7_ahead 61 = .ok (.invokevirtual 138, 3) := by decide +kernel
theorem dX7_ahead_64 : decode cX7_ahead 64 = .ok (.ireturn, 1) := by decide +kernel
theorem dX7_ahead_65 : decode cX7_ahead 65 = .ok (.iload_n 3, 1) := by decide +kernel
theorem dX7_ahead_66 : decode cX7_ahead 66 = .ok (.iconst 1, 1) := by decide +kernel
theorem dX7_ahead_67 : decode cX7_ahead 67 = .ok (.if_icmp .ne 15, 3) := by decide +kernel
theorem dX7_ahead_70 : decode cX7_ahead 70 = .ok (.aload_n 0, 1) := by decide +kernel
theorem dX7_ahead_71 : decode cX7_ahead 71 = .ok (.getfield 16, 3) := by decide +kernel
theorem dX7_ahead_74 : decode cX7_ahead 74 = .ok (.getfield 132, 3) := by decide +kernel
theorem dX7_ahead_77 : decode cX7_ahead 77 = .ok (.iload_n 1, 1) := by decide +kernel
theorem dX7_ahead_78 : decode cX7_ahead 78 = .ok (.iaload, 1) := by decide +kernel
theorem dX7_ahead_79 : decode cX7_ahead 79 = .ok (.goto 11, 3) := by decide +kernel
theorem dX7_ahead_82 : decode cX7_ahead 82 = .ok (.aload_n 0, 1) := by decide +kernel
theorem dX7_ahead_83 : decode cX7_ahead 83 = .ok (.getfield 16, 3) := by decide +kernel
theorem dX7_ahead_86 : decode cX7_ahead 86 = .ok (.iload_n 1, 1) := by decide +kernel
theorem dX7_ahead_87 : decode cX7_ahead 87 = .ok (.invokevirtual 145, 3) := by decide +kernel
theorem dX7_ahead_90 : decode cX7_ahead 90 = .ok (.ireturn, 1) := by decide +kernel
set_option maxRecDepth 20000 in
theorem ggX7_rides_X1_has : GoodIn wsX7_rides wsX1_has := goodIn_r _ [7, 8, 81, 82, 83, 84, 85, 86, 87] (by decide +kernel) (by decide +kernel)
set_option maxRecDepth 20000 in
theorem gX7_rides_X1_has : GoodIn wsX7_rides (wsV RX7 125 RX1 yX1_has wsX1_has) := goodIn_app (goodIn_of _ (by decide +kernel)) ggX7_rides_X1_has
set_option maxRecDepth 20000 in
theorem ggX7_rides_X1_become : GoodIn wsX7_rides wsX1_become := goodIn_r _ [12, 8, 13, 14, 15, 16, 17, 18, 19, 20, 21, 22, 81, 82, 83, 84, 85, 86, 87] (by decide +kernel) (by decide +kernel)
set_option maxRecDepth 20000 in
theorem gX7_rides_X1_become : GoodIn wsX7_rides (wsV RX7 92 RX1 yX1_become wsX1_become) := goodIn_app (goodIn_of _ (by decide +kernel)) ggX7_rides_X1_become
set_option maxRecDepth 20000 in
theorem ggX7_rides_X1_daysTillRiding : GoodIn wsX7_rides wsX1_daysTillRiding := goodIn_r _ [26, 14, 27, 28, 29, 6, 30, 31, 32, 33, 34, 8, 22, 35, 36, 37, 38, 21, 39, 40, 41, 42, 13, 43, 44, 45, 46, 20, 47, 48, 49, 50, 51, 52, 53, 54, 55, 56, 57, 15, 58, 59, 60, 61, 62, 63, 64, 65, 66, 67, 68, 69, 81, 82, 83, 84, 85, 86, 87] (by decide +kernel) (by decide +kernel)
set_option maxRecDepth 20000 in
theorem gX7_rides_X1_daysTillRiding : GoodIn wsX7_rides (wsV RX7 180 RX1 yX1_daysTillRiding wsX1_daysTillRiding) := goodIn_app (goodIn_of _ (by decide +kernel)) ggX7_rides_X1_daysTillRiding
theorem dX7_rides_0 : decode cX7_rides 0 = .ok (.aload_n 0, 1) := by decide +kernel
theorem dX7_rides_1 : decode cX7_rides 1 = .ok (.getfield 10, 3) := by decide +kernel
theorem dX7_rides_4 : decode cX7_rides 4 = .ok (.iload_n 1, 1) := by decide +kernel
theorem dX7_rides_5 : decode cX7_rides 5 = .ok (.invokevirtual 125, 3) := by decide +kernel
theorem dX7_rides_8 : decode cX7_rides 8 = .ok (.ifCond .ne 5, 3) := by decide +kernel
theorem dX7_rides_11 : decode cX7_rides 11 = .ok (.iconst (-1), 1) := by decide +kernel
theorem dX7_rides_12 : decode cX7_rides 12 = .ok (.ireturn, 1) := by decide +kernel
theorem dX7_rides_13 : decode cX7_rides 13 = .ok (.aload_n 0, 1) := by decide +kernel
theorem dX7_rides_14 : decode cX7_rides 14 = .ok (.getfield 16, 3) := by decide +kernel
theorem dX7_rides_17 : decode cX7_rides 17 = .ok (.aload_n 0, 1) := by decide +kernel
theorem dX7_rides_18 : decode cX7_rides 18 = .ok (.getfield 10, 3) := by decide +kernel
theorem dX7_rides_21 : decode cX7_rides 21 = .ok (.invokevirtual 92, 3) := by decide +kernel
theorem dX7_rides_24 : decode cX7_rides 24 = .ok (.aload_n 0, 1) := by decide +kernel
theorem dX7_rides_25 : decode cX7_rides 25 = .ok (.getfield 16, 3) := by decide +kernel
theorem dX7_rides_28 : decode cX7_rides 28 = .ok (.iload_n 1, 1) := by decide +kernel
theorem dX7_rides_29 : decode cX7_rides 29 = .ok (.invokevirtual 180, 3) := by decide +kernel
theorem dX7_rides_32 : decode cX7_rides 32 = .ok (.ireturn, 1) := by decide +kernel
set_option maxRecDepth 20000 in
theorem ggX7_net_X1_has : GoodIn wsX7_net wsX1_has := goodIn_r _ [6, 7, 32, 33, 34, 35, 36, 37, 38] (by decide +kernel) (by decide +kernel)
set_option maxRecDepth 20000 in
theorem gX7_net_X1_has : GoodIn wsX7_net (wsV RX7 125 RX1 yX1_has wsX1_has) := goodIn_app (goodIn_of _ (by decide +kernel)) ggX7_net_X1_has
set_option maxRecDepth 20000 in
theorem ggX7_net_X1_netOf : GoodIn wsX7_net wsX1_netOf := goodIn_r _ [11, 12, 13, 14, 5, 15, 7, 16, 17, 18, 19, 20, 32, 33, 34, 35, 36, 37, 38] (by decide +kernel) (by decide +kernel)
set_option maxRecDepth 20000 in
theorem gX7_net_X1_netOf : GoodIn wsX7_net (wsV RX7 183 RX1 yX1_netOf wsX1_netOf) := goodIn_app (goodIn_of _ (by decide +kernel)) ggX7_net_X1_netOf
theorem dX7_net_0 : decode cX7_net 0 = .ok (.aload_n 0, 1) := by decide +kernel
theorem dX7_net_1 : decode cX7_net 1 = .ok (.getfield 10, 3) := by decide +kernel
theorem dX7_net_4 : decode cX7_net 4 = .ok (.iload_n 1, 1) := by decide +kernel
theorem dX7_net_5 : decode cX7_net 5 = .ok (.invokevirtual 125, 3) := by decide +kernel
theorem dX7_net_8 : decode cX7_net 8 = .ok (.ifCond .ne 5, 3) := by decide +kernel
theorem dX7_net_11 : decode cX7_net 11 = .ok (.iconst (-1), 1) := by decide +kernel
theorem dX7_net_12 : decode cX7_net 12 = .ok (.ireturn, 1) := by decide +kernel
theorem dX7_net_13 : decode cX7_net 13 = .ok (.aload_n 0, 1) := by decide +kernel
theorem dX7_net_14 : decode cX7_net 14 = .ok (.getfield 10, 3) := by decide +kernel
theorem dX7_net_17 : decode cX7_net 17 = .ok (.iload_n 1, 1) := by decide +kernel
theorem dX7_net_18 : decode cX7_net 18 = .ok (.invokevirtual 183, 3) := by decide +kernel
theorem dX7_net_21 : decode cX7_net 21 = .ok (.sipush 1000, 3) := by decide +kernel
theorem dX7_net_24 : decode cX7_net 24 = .ok (.iadd, 1) := by decide +kernel
theorem dX7_net_25 : decode cX7_net 25 = .ok (.ireturn, 1) := by decide +kernel
set_option maxRecDepth 20000 in
theorem ggX7_least_X1_netOf : GoodIn wsX7_least wsX1_netOf := goodIn_r _ [11, 12, 13, 14, 10, 15, 16, 17, 18, 19, 20, 21, 33, 34, 35, 36, 37, 38, 39] (by decide +kernel) (by decide +kernel)
set_option maxRecDepth 20000 in
theorem gX7_least_X1_netOf : GoodIn wsX7_least (wsV RX7 183 RX1 yX1_netOf wsX1_netOf) := goodIn_app (goodIn_of _ (by decide +kernel)) ggX7_least_X1_netOf
theorem dX7_least_0 : decode cX7_least 0 = .ok (.iconst 0, 1) := by decide +kernel
theorem dX7_least_1 : decode cX7_least 1 = .ok (.istore_n 1, 1) := by decide +kernel
theorem dX7_least_2 : decode cX7_least 2 = .ok (.iconst 0, 1) := by decide +kernel
theorem dX7_least_3 : decode cX7_least 3 = .ok (.istore_n 2, 1) := by decide +kernel
theorem dX7_least_4 : decode cX7_least 4 = .ok (.iload_n 2, 1) := by decide +kernel
theorem dX7_least_5 : decode cX7_least 5 = .ok (.aload_n 0, 1) := by decide +kernel
theorem dX7_least_6 : decode cX7_least 6 = .ok (.getfield 10, 3) := by decide +kernel
theorem dX7_least_9 : decode cX7_least 9 = .ok (.getfield 106, 3) := by decide +kernel
theorem dX7_least_12 : decode cX7_least 12 = .ok (.if_icmp .ge 24, 3) := by decide +kernel
theorem dX7_least_15 : decode cX7_least 15 = .ok (.iload_n 1, 1) := by decide +kernel
theorem dX7_least_16 : decode cX7_least 16 = .ok (.iconst 0, 1) := by decide +kernel
theorem dX7_least_17 : decode cX7_least 17 = .ok (.aload_n 0, 1) := by decide +kernel
theorem dX7_least_18 : decode cX7_least 18 = .ok (.getfield 10, 3) := by decide +kernel
theorem dX7_least_21 : decode cX7_least 21 = .ok (.iload_n 2, 1) := by decide +kernel
theorem dX7_least_22 : decode cX7_least 22 = .ok (.invokevirtual 183, 3) := by decide +kernel
theorem dX7_least_25 : decode cX7_least 25 = .ok (.invokestatic 186, 3) := by decide +kernel
theorem dX7_least_28 : decode cX7_least 28 = .ok (.iadd, 1) := by decide +kernel
theorem dX7_least_29 : decode cX7_least 29 = .ok (.istore_n 1, 1) := by decide +kernel
theorem dX7_least_30 : decode cX7_least 30 = .ok (.iinc 2 1, 3) := by decide +kernel
theorem dX7_least_33 : decode cX7_least 33 = .ok (.goto (-29), 3) := by decide +kernel
theorem dX7_least_36 : decode cX7_least 36 = .ok (.iload_n 1, 1) := by decide +kernel
theorem dX7_least_37 : decode cX7_least 37 = .ok (.ireturn, 1) := by decide +kernel
set_option maxRecDepth 20000 in
theorem ggX7_ring_X7_within : GoodIn wsX7_ring wsX7_within := goodIn_r _ [8] (by decide +kernel) (by decide +kernel)
set_option maxRecDepth 20000 in
theorem gX7_ring_X7_within : GoodIn wsX7_ring (va_wsS RX7 65 yX7_within wsX7_within) := goodIn_app (goodIn_of _ (by decide +kernel)) ggX7_ring_X7_within
set_option maxRecDepth 20000 in
theorem ggX7_ring_X4_find : GoodIn wsX7_ring wsX4_find := goodIn_r _ [13, 14, 15, 16, 17, 18, 19, 12, 20, 21, 22, 23, 24, 25, 26, 27, 28, 29, 30, 56, 57, 58, 59, 60, 61, 62, 54, 55] (by decide +kernel) (by decide +kernel)
set_option maxRecDepth 20000 in
theorem gX7_ring_X4_find : GoodIn wsX7_ring (wsV RX7 191 RX4 yX4_find wsX4_find) := goodIn_app (goodIn_of _ (by decide +kernel)) ggX7_ring_X4_find
set_option maxRecDepth 20000 in
theorem ggX7_ring_X4_leastDebt : GoodIn wsX7_ring wsX4_leastDebt := goodIn_r _ [34, 15, 16, 35, 36, 37, 38, 39, 40, 41, 12, 42, 21, 22, 23, 24, 25, 26, 54, 55, 56, 57, 58, 59, 60, 61, 62] (by decide +kernel) (by decide +kernel)
set_option maxRecDepth 20000 in
theorem gX7_ring_X4_leastDebt : GoodIn wsX7_ring (wsV RX7 196 RX4 yX4_leastDebt wsX4_leastDebt) := goodIn_app (goodIn_of _ (by decide +kernel)) ggX7_ring_X4_leastDebt
theorem dX7_ring_0 : decode cX7_ring 0 = .ok (.iload_n 1, 1) := by decide +kernel
theorem dX7_ring_1 : decode cX7_ring 1 = .ok (.bipush 10, 2) := by decide +kernel
theorem dX7_ring_3 : decode cX7_ring 3 = .ok (.bipush 14, 2) := by decide +kernel
theorem dX7_ring_5 : decode cX7_ring 5 = .ok (.invokestatic 65, 3) := by decide +kernel
theorem dX7_ring_8 : decode cX7_ring 8 = .ok (.istore_n 2, 1) := by decide +kernel
theorem dX7_ring_9 : decode cX7_ring 9 = .ok (.iload_n 1, 1) := by decide +kernel
theorem dX7_ring_10 : decode cX7_ring 10 = .ok (.iconst 0, 1) := by decide +kernel
theorem dX7_ring_11 : decode cX7_ring 11 = .ok (.iconst 1, 1) := by decide +kernel
theorem dX7_ring_12 : decode cX7_ring 12 = .ok (.invokestatic 65, 3) := by decide +kernel
theorem dX7_ring_15 : decode cX7_ring 15 = .ok (.ifCond .ne 9, 3) := by decide +kernel
theorem dX7_ring_18 : decode cX7_ring 18 = .ok (.iload_n 2, 1) := by decide +kernel
theorem dX7_ring_19 : decode cX7_ring 19 = .ok (.ifCond .ne 5, 3) := by decide +kernel
theorem dX7_ring_22 : decode cX7_ring 22 = .ok (.iconst (-1), 1) := by decide +kernel
theorem dX7_ring_23 : decode cX7_ring 23 = .ok (.ireturn, 1) := by decide +kernel
theorem dX7_ring_24 : decode cX7_ring 24 = .ok (.aload_n 0, 1) := by decide +kernel
theorem dX7_ring_25 : decode cX7_ring 25 = .ok (.getfield 29, 3) := by decide +kernel
theorem dX7_ring_28 : decode cX7_ring 28 = .ok (.aload_n 0, 1) := by decide +kernel
theorem dX7_ring_29 : decode cX7_ring 29 = .ok (.getfield 10, 3) := by decide +kernel
theorem dX7_ring_32 : decode cX7_ring 32 = .ok (.invokevirtual 191, 3) := by decide +kernel
theorem dX7_ring_35 : decode cX7_ring 35 = .ok (.ifCond .ne 6, 3) := by decide +kernel
theorem dX7_ring_38 : decode cX7_ring 38 = .ok (.bipush (-4), 2) := by decide +kernel
theorem dX7_ring_40 : decode cX7_ring 40 = .ok (.ireturn, 1) := by decide +kernel
theorem dX7_ring_41 : decode cX7_ring 41 = .ok (.iload_n 1, 1) := by decide +kernel
theorem dX7_ring_42 : decode cX7_ring 42 = .ok (.ifCond .ne 11, 3) := by decide +kernel
theorem dX7_ring_45 : decode cX7_ring 45 = .ok (.aload_n 0, 1) := by decide +kernel
theorem dX7_ring_46 : decode cX7_ring 46 = .ok (.getfield 29, 3) := by decide +kernel
theorem dX7_ring_49 : decode cX7_ring 49 = .ok (.getfield 195, 3) := by decide +kernel
theorem dX7_ring_52 : decode cX7_ring 52 = .ok (.ireturn, 1) := by decide +kernel
theorem dX7_ring_53 : decode cX7_ring 53 = .ok (.iload_n 1, 1) := by decide +kernel
theorem dX7_ring_54 : decode cX7_ring 54 = .ok (.iconst 1, 1) := by decide +kernel
theorem dX7_ring_55 : decode cX7_ring 55 = .ok (.if_icmp .ne 15, 3) := by decide +kernel
theorem dX7_ring_58 : decode cX7_ring 58 = .ok (.aload_n 0, 1) := by decide +kernel
theorem dX7_ring_59 : decode cX7_ring 59 = .ok (.getfield 29, 3) := by decide +kernel
theorem dX7_ring_62 : decode cX7_ring 62 = .ok (.aload_n 0, 1) := by decide +kernel
theorem dX7_ring_63 : decode cX7_ring 63 = .ok (.getfield 10, 3) := by decide +kernel
theorem dX7_ring_66 : decode cX7_ring 66 = .ok (.invokevirtual 196, 3) := by decide +kernel
theorem dX7_ring_69 : decode cX7_ring 69 = .ok (.ireturn, 1) := by decide +kernel
theorem dX7_ring_70 : decode cX7_ring 70 = .ok (.iload_n 1, 1) := by decide +kernel
theorem dX7_ring_71 : decode cX7_ring 71 = .ok (.bipush 10, 2) := by decide +kernel
theorem dX7_ring_73 : decode cX7_ring 73 = .ok (.isub, 1) := by decide +kernel
theorem dX7_ring_74 : decode cX7_ring 74 = .ok (.aload_n 0, 1) := by decide +kernel
theorem dX7_ring_75 : decode cX7_ring 75 = .ok (.getfield 29, 3) := by decide +kernel
theorem dX7_ring_78 : decode cX7_ring 78 = .ok (.getfield 195, 3) := by decide +kernel
theorem dX7_ring_81 : decode cX7_ring 81 = .ok (.if_icmp .ge 18, 3) := by decide +kernel
theorem dX7_ring_84 : decode cX7_ring 84 = .ok (.aload_n 0, 1) := by decide +kernel
theorem dX7_ring_85 : decode cX7_ring 85 = .ok (.getfield 29, 3) := by decide +kernel
theorem dX7_ring_88 : decode cX7_ring 88 = .ok (.getfield 200, 3) := by decide +kernel
theorem dX7_ring_91 : decode cX7_ring 91 = .ok (.iload_n 1, 1) := by decide +kernel
theorem dX7_ring_92 : decode cX7_ring 92 = .ok (.bipush 10, 2) := by decide +kernel
theorem dX7_ring_94 : decode cX7_ring 94 = .ok (.isub, 1) := by decide +kernel
theorem dX7_ring_95 : decode cX7_ring 95 = .ok (.iaload, 1) := by decide +kernel
theorem dX7_ring_96 : decode cX7_ring 96 = .ok (.goto 5, 3) := by decide +kernel
theorem dX7_ring_99 : decode cX7_ring 99 = .ok (.bipush (-4), 2) := by decide +kernel
theorem dX7_ring_101 : decode cX7_ring 101 = .ok (.ireturn, 1) := by decide +kernel
set_option maxRecDepth 20000 in
theorem ggX7_clear_X1_owedInAll : GoodIn wsX7_clear wsX1_owedInAll := goodIn_r _ [7, 8, 9, 10, 11, 6, 12, 13, 65, 66, 67, 68, 69, 70, 71] (by decide +kernel) (by decide +kernel)
set_option maxRecDepth 20000 in
theorem gX7_clear_X1_owedInAll : GoodIn wsX7_clear (wsV RX7 119 RX1 yX1_owedInAll wsX1_owedInAll) := goodIn_app (goodIn_of _ (by decide +kernel)) ggX7_clear_X1_owedInAll
set_option maxRecDepth 20000 in
theorem ggX7_clear_X4_find : GoodIn wsX7_clear wsX4_find := goodIn_r _ [18, 19, 20, 21, 22, 23, 24, 17, 25, 26, 27, 28, 6, 29, 13, 30, 31, 32, 33, 65, 66, 67, 68, 69, 70, 71, 72, 73] (by decide +kernel) (by decide +kernel)
set_option maxRecDepth 20000 in
theorem gX7_clear_X4_find : GoodIn wsX7_clear (wsV RX7 191 RX4 yX4_find wsX4_find) := goodIn_app (goodIn_of _ (by decide +kernel)) ggX7_clear_X4_find
set_option maxRecDepth 20000 in
theorem ggX7_clear_X4_leastDebt : GoodIn wsX7_clear wsX4_leastDebt := goodIn_r _ [37, 20, 21, 38, 39, 40, 41, 42, 43, 44, 17, 45, 26, 27, 28, 6, 29, 13, 72, 73, 65, 66, 67, 68, 69, 70, 71] (by decide +kernel) (by decide +kernel)
set_option maxRecDepth 20000 in
theorem gX7_clear_X4_leastDebt : GoodIn wsX7_clear (wsV RX7 196 RX4 yX4_leastDebt wsX4_leastDebt) := goodIn_app (goodIn_of _ (by decide +kernel)) ggX7_clear_X4_leastDebt
set_option maxRecDepth 20000 in
theorem ggX7_clear_X4_lessen : GoodIn wsX7_clear wsX4_lessen := goodIn_r _ [49, 20, 21, 42, 43, 44, 17, 45, 26, 27, 28, 6, 29, 13, 50, 51, 52, 53, 72, 73, 65, 66, 67, 68, 69, 70, 71] (by decide +kernel) (by decide +kernel)
set_option maxRecDepth 20000 in
theorem gX7_clear_X4_lessen : GoodIn wsX7_clear (wsV RX7 203 RX4 yX4_lessen wsX4_lessen) := goodIn_app (goodIn_of _ (by decide +kernel)) ggX7_clear_X4_lessen
theorem dX7_clear_0 : decode cX7_clear 0 = .ok (.aload_n 0, 1) := by decide +kernel
theorem dX7_clear_1 : decode cX7_clear 1 = .ok (.getfield 10, 3) := by decide +kernel
theorem dX7_clear_4 : decode cX7_clear 4 = .ok (.invokevirtual 119, 3) := by decide +kernel
theorem dX7_clear_7 : decode cX7_clear 7 = .ok (.istore_n 1, 1) := by decide +kernel
theorem dX7_clear_8 : decode cX7_clear 8 = .ok (.iconst 0, 1) := by decide +kernel
theorem dX7_clear_9 : decode cX7_clear 9 = .ok (.istore_n 2, 1) := by decide +kernel
theorem dX7_clear_10 : decode cX7_clear 10 = .ok (.iload_n 2, 1) := by decide +kernel
theorem dX7_clear_11 : decode cX7_clear 11 = .ok (.bipush 25, 2) := by decide +kernel
theorem dX7_clear_13 : decode cX7_clear 13 = .ok (.if_icmp .ge 45, 3) := by decide +kernel
theorem dX7_clear_16 : decode cX7_clear 16 = .ok (.aload_n 0, 1) := by decide +kernel
theorem dX7_clear_17 : decode cX7_clear 17 = .ok (.getfield 29, 3) := by decide +kernel
theorem dX7_clear_20 : decode cX7_clear 20 = .ok (.aload_n 0, 1) := by decide +kernel
theorem dX7_clear_21 : decode cX7_clear 21 = .ok (.getfield 10, 3) := by decide +kernel
theorem dX7_clear_24 : decode cX7_clear 24 = .ok (.invokevirtual 191, 3) := by decide +kernel
theorem dX7_clear_27 : decode cX7_clear 27 = .ok (.ifCond .eq 31, 3) := by decide +kernel
theorem dX7_clear_30 : decode cX7_clear 30 = .ok (.aload_n 0, 1) := by decide +kernel
theorem dX7_clear_31 : decode cX7_clear 31 = .ok (.getfield 29, 3) := by decide +kernel
theorem dX7_clear_34 : decode cX7_clear 34 = .ok (.aload_n 0, 1) := by decide +kernel
theorem dX7_clear_35 : decode cX7_clear 35 = .ok (.getfield 10, 3) := by decide +kernel
theorem dX7_clear_38 : decode cX7_clear 38 = .ok (.aload_n 0, 1) := by decide +kernel
theorem dX7_clear_39 : decode cX7_clear 39 = .ok (.getfield 29, 3) := by decide +kernel
theorem dX7_clear_42 : decode cX7_clear 42 = .ok (.aload_n 0, 1) := by decide +kernel
theorem dX7_clear_43 : decode cX7_clear 43 = .ok (.getfield 10, 3) := by decide +kernel
theorem dX7_clear_46 : decode cX7_clear 46 = .ok (.invokevirtual 196, 3) := by decide +kernel
theorem dX7_clear_49 : decode cX7_clear 49 = .ok (.invokevirtual 203, 3) := by decide +kernel
theorem dX7_clear_52 : decode cX7_clear 52 = .ok (.iinc 2 1, 3) := by decide +kernel
theorem dX7_clear_55 : decode cX7_clear 55 = .ok (.goto (-45), 3) := by decide +kernel
theorem dX7_clear_58 : decode cX7_clear 58 = .ok (.iload_n 1, 1) := by decide +kernel
theorem dX7_clear_59 : decode cX7_clear 59 = .ok (.aload_n 0, 1) := by decide +kernel
theorem dX7_clear_60 : decode cX7_clear 60 = .ok (.getfield 10, 3) := by decide +kernel
theorem dX7_clear_63 : decode cX7_clear 63 = .ok (.invokevirtual 119, 3) := by decide +kernel
theorem dX7_clear_66 : decode cX7_clear 66 = .ok (.isub, 1) := by decide +kernel
theorem dX7_clear_67 : decode cX7_clear 67 = .ok (.ireturn, 1) := by decide +kernel
set_option maxRecDepth 20000 in
theorem ggX7_give_X7_within : GoodIn wsX7_give wsX7_within := goodIn_r _ [7] (by decide +kernel) (by decide +kernel)
set_option maxRecDepth 20000 in
theorem gX7_give_X7_within : GoodIn wsX7_give (va_wsS RX7 65 yX7_within wsX7_within) := goodIn_app (goodIn_of _ (by decide +kernel)) ggX7_give_X7_within
set_option maxRecDepth 20000 in
theorem ggX7_give_X1_become : GoodIn wsX7_give wsX1_become := goodIn_r _ [12, 13, 14, 15, 16, 17, 18, 19, 20, 21, 22, 23, 94, 95, 96, 97, 98, 99, 100] (by decide +kernel) (by decide +kernel)
set_option maxRecDepth 20000 in
theorem gX7_give_X1_become : GoodIn wsX7_give (wsV RX7 92 RX1 yX1_become wsX1_become) := goodIn_app (goodIn_of _ (by decide +kernel)) ggX7_give_X1_become
set_option maxRecDepth 20000 in
theorem ggX7_give_X1_ridersInTheEnd : GoodIn wsX7_give wsX1_ridersInTheEnd := goodIn_r _ [27, 15, 28, 29, 30, 11, 31, 13, 22, 32, 33, 34, 35, 14, 36, 37, 38, 39, 21, 40, 41, 42, 43, 44, 45, 46, 47, 48, 49, 50, 16, 51, 52, 53, 54, 23, 55, 56, 57, 58, 59, 60, 61, 62, 63, 64, 65, 66, 67, 68, 69, 70, 71, 72, 73, 74, 75, 76, 77, 78, 79, 80, 81, 94, 95, 96, 97, 98, 99, 100] (by decide +kernel) (by decide +kernel)
set_option maxRecDepth 20000 in
theorem gX7_give_X1_ridersInTheEnd : GoodIn wsX7_give (wsV RX7 207 RX1 yX1_ridersInTheEnd wsX1_ridersInTheEnd) := goodIn_app (goodIn_of _ (by decide +kernel)) ggX7_give_X1_ridersInTheEnd
set_option maxRecDepth 20000 in
theorem ggX7_give_X1_gain : GoodIn wsX7_give wsX1_gain := goodIn_r _ [39, 21, 94, 95, 96, 97, 98, 99, 100] (by decide +kernel) (by decide +kernel)
set_option maxRecDepth 20000 in
theorem gX7_give_X1_gain : GoodIn wsX7_give (wsV RX7 210 RX1 yX1_gain wsX1_gain) := goodIn_app (goodIn_of _ (by decide +kernel)) ggX7_give_X1_gain
theorem dX7_give_0 : decode cX7_give 0 = .ok (.iload_n 1, 1) := by decide +kernel
theorem dX7_give_1 : decode cX7_give 1 = .ok (.iconst 1, 1) := by decide +kernel
theorem dX7_give_2 : decode cX7_give 2 = .ok (.bipush 99, 2) := by decide +kernel
theorem dX7_give_4 : decode cX7_give 4 = .ok (.invokestatic 65, 3) := by decide +kernel
theorem dX7_give_7 : decode cX7_give 7 = .ok (.ifCond .eq 12, 3) := by decide +kernel
theorem dX7_give_10 : decode cX7_give 10 = .ok (.iload_n 2, 1) := by decide +kernel
theorem dX7_give_11 : decode cX7_give 11 = .ok (.iconst 0, 1) := by decide +kernel
theorem dX7_give_12 : decode cX7_give 12 = .ok (.iconst 1, 1) := by decide +kernel
theorem dX7_give_13 : decode cX7_give 13 = .ok (.invokestatic 65, 3) := by decide +kernel
theorem dX7_give_16 : decode cX7_give 16 = .ok (.ifCond .ne 5, 3) := by decide +kernel
theorem dX7_give_19 : decode cX7_give 19 = .ok (.iconst (-1), 1) := by decide +kernel
theorem dX7_give_20 : decode cX7_give 20 = .ok (.ireturn, 1) := by decide +kernel
theorem dX7_give_21 : decode cX7_give 21 = .ok (.bipush (-4), 2) := by decide +kernel
theorem dX7_give_23 : decode cX7_give 23 = .ok (.istore_n 3, 1) := by decide +kernel
theorem dX7_give_24 : decode cX7_give 24 = .ok (.aload_n 0, 1) := by decide +kernel
theorem dX7_give_25 : decode cX7_give 25 = .ok (.getfield 16, 3) := by decide +kernel
theorem dX7_give_28 : decode cX7_give 28 = .ok (.aload_n 0, 1) := by decide +kernel
theorem dX7_give_29 : decode cX7_give 29 = .ok (.getfield 10, 3) := by decide +kernel
theorem dX7_give_32 : decode cX7_give 32 = .ok (.invokevirtual 92, 3) := by decide +kernel
theorem dX7_give_35 : decode cX7_give 35 = .ok (.aload_n 0, 1) := by decide +kernel
theorem dX7_give_36 : decode cX7_give 36 = .ok (.getfield 16, 3) := by decide +kernel
theorem dX7_give_39 : decode cX7_give 39 = .ok (.invokevirtual 207, 3) := by decide +kernel
theorem dX7_give_42 : decode cX7_give 42 = .ok (.istore 4, 2) := by decide +kernel
theorem dX7_give_44 : decode cX7_give 44 = .ok (.iconst 0, 1) := by decide +kernel
theorem dX7_give_45 : decode cX7_give 45 = .ok (.istore 5, 2) := by decide +kernel
theorem dX7_give_47 : decode cX7_give 47 = .ok (.iload 5, 2) := by decide +kernel
theorem dX7_give_49 : decode cX7_give 49 = .ok (.aload_n 0, 1) := by decide +kernel
theorem dX7_give_50 : decode cX7_give 50 = .ok (.getfield 10, 3) := by decide +kernel
theorem dX7_give_53 : decode cX7_give 53 = .ok (.getfield 106, 3) := by decide +kernel
theorem dX7_give_56 : decode cX7_give 56 = .ok (.if_icmp .ge 53, 3) := by decide +kernel
theorem dX7_give_59 : decode cX7_give 59 = .ok (.aload_n 0, 1) := by decide +kernel
theorem dX7_give_60 : decode cX7_give 60 = .ok (.getfield 16, 3) := by decide +kernel
theorem dX7_give_63 : decode cX7_give 63 = .ok (.aload_n 0, 1) := by decide +kernel
theorem dX7_give_64 : decode cX7_give 64 = .ok (.getfield 10, 3) := by decide +kernel
theorem dX7_give_67 : decode cX7_give 67 = .ok (.invokevirtual 92, 3) := by decide +kernel
theorem dX7_give_70 : decode cX7_give 70 = .ok (.aload_n 0, 1) := by decide +kernel
theorem dX7_give_71 : decode cX7_give 71 = .ok (.getfield 16, 3) := by decide +kernel
theorem dX7_give_74 : decode cX7_give 74 = .ok (.iload 5, 2) := by decide +kernel
theorem dX7_give_76 : decode cX7_give 76 = .ok (.iload_n 1, 1) := by decide +kernel
theorem dX7_give_77 : decode cX7_give 77 = .ok (.invokevirtual 210, 3) := by decide +kernel
theorem dX7_give_80 : decode cX7_give 80 = .ok (.aload_n 0, 1) := by decide +kernel
theorem dX7_give_81 : decode cX7_give 81 = .ok (.getfield 16, 3) := by decide +kernel
theorem dX7_give_84 : decode cX7_give 84 = .ok (.invokevirtual 207, 3) := by decide +kernel
theorem dX7_give_87 : decode cX7_give 87 = .ok (.istore 6, 2) := by decide +kernel
theorem dX7_give_89 : decode cX7_give 89 = .ok (.iload 6, 2) := by decide +kernel
theorem dX7_give_91 : decode cX7_give 91 = .ok (.iload 4, 2) := by decide +kernel
theorem dX7_give_93 : decode cX7_give 93 = .ok (.if_icmp .le 10, 3) := by decide +kernel
theorem dX7_give_96 : decode cX7_give 96 = .ok (.iload 6, 2) := by decide +kernel
theorem dX7_give_98 : decode cX7_give 98 = .ok (.istore 4, 2) := by decide +kernel
theorem dX7_give_100 : decode cX7_give 100 = .ok (.iload 5, 2) := by decide +kernel
theorem dX7_give_102 : decode cX7_give 102 = .ok (.istore_n 3, 1) := by decide +kernel
theorem dX7_give_103 : decode cX7_give 103 = .ok (.iinc 5 1, 3) := by decide +kernel
theorem dX7_give_106 : decode cX7_give 106 = .ok (.goto (-59), 3) := by decide +kernel
theorem dX7_give_109 : decode cX7_give 109 = .ok (.iload_n 3, 1) := by decide +kernel
theorem dX7_give_110 : decode cX7_give 110 = .ok (.bipush (-4), 2) := by decide +kernel
theorem dX7_give_112 : decode cX7_give 112 = .ok (.if_icmp .ne 6, 3) := by decide +kernel
theorem dX7_give_115 : decode cX7_give 115 = .ok (.bipush (-4), 2) := by decide +kernel
theorem dX7_give_117 : decode cX7_give 117 = .ok (.ireturn, 1) := by decide +kernel
theorem dX7_give_118 : decode cX7_give 118 = .ok (.iload_n 2, 1) := by decide +kernel
theorem dX7_give_119 : decode cX7_give 119 = .ok (.ifCond .ne 7, 3) := by decide +kernel
theorem dX7_give_122 : decode cX7_give 122 = .ok (.iload_n 3, 1) := by decide +kernel
theorem dX7_give_123 : decode cX7_give 123 = .ok (.goto 5, 3) := by decide +kernel
theorem dX7_give_126 : decode cX7_give 126 = .ok (.iload 4, 2) := by decide +kernel
theorem dX7_give_128 : decode cX7_give 128 = .ok (.ireturn, 1) := by decide +kernel
set_option maxRecDepth 20000 in
theorem ggX7_forgive_X7_within : GoodIn wsX7_forgive wsX7_within := goodIn_r _ [7] (by decide +kernel) (by decide +kernel)
set_option maxRecDepth 20000 in
theorem gX7_forgive_X7_within : GoodIn wsX7_forgive (va_wsS RX7 65 yX7_within wsX7_within) := goodIn_app (goodIn_of _ (by decide +kernel)) ggX7_forgive_X7_within
set_option maxRecDepth 20000 in
theorem ggX7_forgive_X1_become : GoodIn wsX7_forgive wsX1_become := goodIn_r _ [12, 13, 14, 15, 16, 17, 18, 19, 20, 21, 22, 23, 99, 100, 101, 102, 103, 104, 105] (by decide +kernel) (by decide +kernel)
set_option maxRecDepth 20000 in
theorem gX7_forgive_X1_become : GoodIn wsX7_forgive (wsV RX7 92 RX1 yX1_become wsX1_become) := goodIn_app (goodIn_of _ (by decide +kernel)) ggX7_forgive_X1_become
set_option maxRecDepth 20000 in
theorem ggX7_forgive_X1_ridersInTheEnd : GoodIn wsX7_forgive wsX1_ridersInTheEnd := goodIn_r _ [27, 15, 28, 29, 30, 11, 31, 13, 22, 32, 33, 34, 35, 14, 36, 37, 38, 39, 21, 40, 41, 42, 43, 44, 45, 46, 47, 48, 49, 50, 16, 51, 52, 53, 54, 23, 55, 56, 57, 58, 59, 60, 61, 62, 63, 64, 65, 66, 67, 68, 69, 70, 71, 72, 73, 74, 75, 76, 77, 78, 79, 80, 81, 99, 100, 101, 102, 103, 104, 105] (by decide +kernel) (by decide +kernel)
set_option maxRecDepth 20000 in
theorem gX7_forgive_X1_ridersInTheEnd : GoodIn wsX7_forgive (wsV RX7 207 RX1 yX1_ridersInTheEnd wsX1_ridersInTheEnd) := goodIn_app (goodIn_of _ (by decide +kernel)) ggX7_forgive_X1_ridersInTheEnd
set_option maxRecDepth 20000 in
theorem ggX7_forgive_X1_debt : GoodIn wsX7_forgive wsX1_debt := goodIn_r _ [58, 23, 99, 100, 101, 102, 103, 104, 105] (by decide +kernel) (by decide +kernel)
set_option maxRecDepth 20000 in
theorem gX7_forgive_X1_debt : GoodIn wsX7_forgive (wsV RX7 155 RX1 yX1_debt wsX1_debt) := goodIn_app (goodIn_of _ (by decide +kernel)) ggX7_forgive_X1_debt
set_option maxRecDepth 20000 in
theorem ggX7_forgive_X7_ridersIfForgiven : GoodIn wsX7_forgive wsX7_ridersIfForgiven := goodIn_r _ [86, 1, 2, 8, 9, 10, 11, 12, 13, 14, 15, 16, 17, 18, 19, 20, 21, 22, 23, 87, 64, 65, 66, 24, 25, 26, 27, 28, 29, 30, 31, 32, 33, 34, 35, 36, 37, 38, 39, 40, 41, 42, 43, 44, 45, 46, 47, 48, 49, 50, 51, 52, 53, 54, 55, 56, 57, 58, 59, 60, 61, 62, 63, 67, 68, 69, 70, 71, 72, 73, 74, 75, 76, 77, 78, 79, 80, 81, 88, 89, 90, 91, 92, 93, 94, 95, 96, 97, 98, 99, 100, 101, 102, 103, 104, 105] (by decide +kernel) (by decide +kernel)
set_option maxRecDepth 20000 in
theorem gX7_forgive_X7_ridersIfForgiven : GoodIn wsX7_forgive (wsV RX7 214 RX7 yX7_ridersIfForgiven wsX7_ridersIfForgiven) := goodIn_app (goodIn_of _ (by decide +kernel)) ggX7_forgive_X7_ridersIfForgiven
theorem dX7_forgive_0 : decode cX7_forgive 0 = .ok (.iload_n 1, 1) := by decide +kernel
theorem dX7_forgive_1 : decode cX7_forgive 1 = .ok (.iconst 0, 1) := by decide +kernel
theorem dX7_forgive_2 : decode cX7_forgive 2 = .ok (.iconst 1, 1) := by decide +kernel
theorem dX7_forgive_3 : decode cX7_forgive 3 = .ok (.invokestatic 65, 3) := by decide +kernel
theorem dX7_forgive_6 : decode cX7_forgive 6 = .ok (.ifCond .ne 5, 3) := by decide +kernel
theorem dX7_forgive_9 : decode cX7_forgive 9 = .ok (.iconst (-1), 1) := by decide +kernel
theorem dX7_forgive_10 : decode cX7_forgive 10 = .ok (.ireturn, 1) := by decide +kernel
theorem dX7_forgive_11 : decode cX7_forgive 11 = .ok (.bipush (-4), 2) := by decide +kernel
theorem dX7_forgive_13 : decode cX7_forgive 13 = .ok (.istore_n 2, 1) := by decide +kernel
theorem dX7_forgive_14 : decode cX7_forgive 14 = .ok (.aload_n 0, 1) := by decide +kernel
theorem dX7_forgive_15 : decode cX7_forgive 15 = .ok (.getfield 16, 3) := by decide +kernel
theorem dX7_forgive_18 : decode cX7_forgive 18 = .ok (.aload_n 0, 1) := by decide +kernel
theorem dX7_forgive_19 : decode cX7_forgive 19 = .ok (.getfield 10, 3) := by decide +kernel
theorem dX7_forgive_22 : decode cX7_forgive 22 = .ok (.invokevirtual 92, 3) := by decide +kernel
theorem dX7_forgive_25 : decode cX7_forgive 25 = .ok (.aload_n 0, 1) := by decide +kernel
theorem dX7_forgive_26 : decode cX7_forgive 26 = .ok (.getfield 16, 3) := by decide +kernel
theorem dX7_forgive_29 : decode cX7_forgive 29 = .ok (.invokevirtual 207, 3) := by decide +kernel
theorem dX7_forgive_32 : decode cX7_forgive 32 = .ok (.istore_n 3, 1) := by decide +kernel
theorem dX7_forgive_33 : decode cX7_forgive 33 = .ok (.iconst 0, 1) := by decide +kernel
theorem dX7_forgive_34 : decode cX7_forgive 34 = .ok (.istore 4, 2) := by decide +kernel
theorem dX7_forgive_36 : decode cX7_forgive 36 = .ok (.iload 4, 2) := by decide +kernel
theorem dX7_forgive_38 : decode cX7_forgive 38 = .ok (.aload_n 0, 1) := by decide +kernel
theorem dX7_forgive_39 : decode cX7_forgive 39 = .ok (.getfield 10, 3) := by decide +kernel
theorem dX7_forgive_42 : decode cX7_forgive 42 = .ok (.getfield 106, 3) := by decide +kernel
theorem dX7_forgive_45 : decode cX7_forgive 45 = .ok (.if_icmp .ge 76, 3) := by decide +kernel
theorem dX7_forgive_48 : decode cX7_forgive 48 = .ok (.iconst 0, 1) := by decide +kernel
theorem dX7_forgive_49 : decode cX7_forgive 49 = .ok (.istore 5, 2) := by decide +kernel
theorem dX7_forgive_51 : decode cX7_forgive 51 = .ok (.iload 5, 2) := by decide +kernel
theorem dX7_forgive_53 : decode cX7_forgive 53 = .ok (.aload_n 0, 1) := by decide +kernel
theorem dX7_forgive_54 : decode cX7_forgive 54 = .ok (.getfield 10, 3) := by decide +kernel
theorem dX7_forgive_57 : decode cX7_forgive 57 = .ok (.getfield 106, 3) := by decide +kernel
theorem dX7_forgive_60 : decode cX7_forgive 60 = .ok (.if_icmp .ge 55, 3) := by decide +kernel
theorem dX7_forgive_63 : decode cX7_forgive 63 = .ok (.aload_n 0, 1) := by decide +kernel
theorem dX7_forgive_64 : decode cX7_forgive 64 = .ok (.getfield 10, 3) := by decide +kernel
theorem dX7_forgive_67 : decode cX7_forgive 67 = .ok (.iload 4, 2) := by decide +kernel
theorem dX7_forgive_69 : decode cX7_forgive 69 = .ok (.iload 5, 2) := by decide +kernel
theorem dX7_forgive_71 : decode cX7_forgive 71 = .ok (.invokevirtual 155, 3) := by decide +kernel
theorem dX7_forgive_74 : decode cX7_forgive 74 = .ok (.ifCond .le 14, 3) := by decide +kernel
theorem dX7_forgive_77 : decode cX7_forgive 77 = .ok (.aload_n 0, 1) := by decide +kernel
theorem dX7_forgive_78 : decode cX7_forgive 78 = .ok (.iload 4, 2) := by decide +kernel
theorem dX7_forgive_80 : decode cX7_forgive 80 = .ok (.iload 5, 2) := by decide +kernel
theorem dX7_forgive_82 : decode cX7_forgive 82 = .ok (.invokevirtual 214, 3) := by decide +kernel
theorem dX7_forgive_85 : decode cX7_forgive 85 = .ok (.goto 4, 3) := by decide +kernel
theorem dX7_forgive_88 : decode cX7_forgive 88 = .ok (.iconst 0, 1) := by decide +kernel
theorem dX7_forgive_89 : decode cX7_forgive 89 = .ok (.istore 6, 2) := by decide +kernel
theorem dX7_forgive_91 : decode cX7_forgive 91 = .ok (.iload 6, 2) := by decide +kernel
theorem dX7_forgive_93 : decode cX7_forgive 93 = .ok (.iload_n 3, 1) := by decide +kernel
theorem dX7_forgive_94 : decode cX7_forgive 94 = .ok (.if_icmp .le 15, 3) := by decide +kernel
theorem dX7_forgive_97 : decode cX7_forgive 97 = .ok (.iload 6, 2) := by decide +kernel
theorem dX7_forgive_99 : decode cX7_forgive 99 = .ok (.istore_n 3, 1) := by decide +kernel
theorem dX7_forgive_100 : decode cX7_forgive 100 = .ok (.bipush 10, 2) := by decide +kernel
theorem dX7_forgive_102 : decode cX7_forgive 102 = .ok (.iload 4, 2) := by decide +kernel
theorem dX7_forgive_104 : decode cX7_forgive 104 = .ok (.imul, 1) := by decide +kernel
theorem dX7_forgive_105 : decode cX7_forgive 105 = .ok (.iload 5, 2) := by decide +kernel
theorem dX7_forgive_107 : decode cX7_forgive 107 = .ok (.iadd, 1) := by decide +kernel
theorem dX7_forgive_108 : decode cX7_forgive 108 = .ok (.istore_n 2, 1) := by decide +kernel
theorem dX7_forgive_109 : decode cX7_forgive 109 = .ok (.iinc 5 1, 3) := by decide +kernel
theorem dX7_forgive_112 : decode cX7_forgive 112 = .ok (.goto (-61), 3) := by decide +kernel
theorem dX7_forgive_115 : decode cX7_forgive 115 = .ok (.iinc 4 1, 3) := by decide +kernel
theorem dX7_forgive_118 : decode cX7_forgive 118 = .ok (.goto (-82), 3) := by decide +kernel
theorem dX7_forgive_121 : decode cX7_forgive 121 = .ok (.iload_n 2, 1) := by decide +kernel
theorem dX7_forgive_122 : decode cX7_forgive 122 = .ok (.bipush (-4), 2) := by decide +kernel
theorem dX7_forgive_124 : decode cX7_forgive 124 = .ok (.if_icmp .ne 6, 3) := by decide +kernel
theorem dX7_forgive_127 : decode cX7_forgive 127 = .ok (.bipush (-4), 2) := by decide +kernel
theorem dX7_forgive_129 : decode cX7_forgive 129 = .ok (.ireturn, 1) := by decide +kernel
theorem dX7_forgive_130 : decode cX7_forgive 130 = .ok (.iload_n 1, 1) := by decide +kernel
theorem dX7_forgive_131 : decode cX7_forgive 131 = .ok (.ifCond .ne 7, 3) := by decide +kernel
theorem dX7_forgive_134 : decode cX7_forgive 134 = .ok (.iload_n 2, 1) := by decide +kernel
theorem dX7_forgive_135 : decode cX7_forgive 135 = .ok (.goto 4, 3) := by decide +kernel
theorem dX7_forgive_138 : decode cX7_forgive 138 = .ok (.iload_n 3, 1) := by decide +kernel
theorem dX7_forgive_139 : decode cX7_forgive 139 = .ok (.ireturn, 1) := by decide +kernel
set_option maxRecDepth 20000 in
theorem ggX7_kind_X1_has : GoodIn wsX7_kind wsX1_has := goodIn_r _ [8, 9, 86, 87, 88, 89, 90, 91, 92] (by decide +kernel) (by decide +kernel)
set_option maxRecDepth 20000 in
theorem gX7_kind_X1_has : GoodIn wsX7_kind (wsV RX7 125 RX1 yX1_has wsX1_has) := goodIn_app (goodIn_of _ (by decide +kernel)) ggX7_kind_X1_has
set_option maxRecDepth 20000 in
theorem ggX7_kind_X7_within : GoodIn wsX7_kind wsX7_within := goodIn_r _ [13] (by decide +kernel) (by decide +kernel)
set_option maxRecDepth 20000 in
theorem gX7_kind_X7_within : GoodIn wsX7_kind (va_wsS RX7 65 yX7_within wsX7_within) := goodIn_app (goodIn_of _ (by decide +kernel)) ggX7_kind_X7_within
set_option maxRecDepth 20000 in
theorem ggX7_kind_X1_become : GoodIn wsX7_kind wsX1_become := goodIn_r _ [17, 9, 18, 19, 20, 21, 22, 23, 24, 25, 26, 27, 86, 87, 88, 89, 90, 91, 92] (by decide +kernel) (by decide +kernel)
set_option maxRecDepth 20000 in
theorem gX7_kind_X1_become : GoodIn wsX7_kind (wsV RX7 92 RX1 yX1_become wsX1_become) := goodIn_app (goodIn_of _ (by decide +kernel)) ggX7_kind_X1_become
set_option maxRecDepth 20000 in
theorem ggX7_kind_X1_daysTillRiding : GoodIn wsX7_kind wsX1_daysTillRiding := goodIn_r _ [31, 19, 32, 33, 34, 7, 35, 36, 37, 38, 39, 9, 27, 40, 41, 42, 43, 26, 44, 45, 46, 47, 18, 48, 49, 50, 51, 25, 52, 53, 54, 55, 56, 57, 58, 59, 60, 61, 62, 20, 63, 64, 65, 66, 67, 68, 69, 70, 71, 72, 73, 74, 86, 87, 88, 89, 90, 91, 92] (by decide +kernel) (by decide +kernel)
set_option maxRecDepth 20000 in
theorem gX7_kind_X1_daysTillRiding : GoodIn wsX7_kind (wsV RX7 180 RX1 yX1_daysTillRiding wsX1_daysTillRiding) := goodIn_app (goodIn_of _ (by decide +kernel)) ggX7_kind_X1_daysTillRiding
theorem dX7_kind_0 : decode cX7_kind 0 = .ok (.aload_n 0, 1) := by decide +kernel
theorem dX7_kind_1 : decode cX7_kind 1 = .ok (.getfield 10, 3) := by decide +kernel
theorem dX7_kind_4 : decode cX7_kind 4 = .ok (.iload_n 1, 1) := by decide +kernel
theorem dX7_kind_5 : decode cX7_kind 5 = .ok (.invokevirtual 125, 3) := by decide +kernel
theorem dX7_kind_8 : decode cX7_kind 8 = .ok (.ifCond .eq 12, 3) := by decide +kernel
theorem dX7_kind_11 : decode cX7_kind 11 = .ok (.iload_n 2, 1) := by decide +kernel
theorem dX7_kind_12 : decode cX7_kind 12 = .ok (.iconst 0, 1) := by decide +kernel
theorem dX7_kind_13 : decode cX7_kind 13 = .ok (.iconst 1, 1) := by decide +kernel
theorem dX7_kind_14 : decode cX7_kind 14 = .ok (.invokestatic 65, 3) := by decide +kernel
theorem dX7_kind_17 : decode cX7_kind 17 = .ok (.ifCond .ne 5, 3) := by decide +kernel
theorem dX7_kind_20 : decode cX7_kind 20 = .ok (.iconst (-1), 1) := by decide +kernel
theorem dX7_kind_21 : decode cX7_kind 21 = .ok (.ireturn, 1) := by decide +kernel
theorem dX7_kind_22 : decode cX7_kind 22 = .ok (.bipush (-4), 2) := by decide +kernel
theorem dX7_kind_24 : decode cX7_kind 24 = .ok (.istore_n 3, 1) := by decide +kernel
theorem dX7_kind_25 : decode cX7_kind 25 = .ok (.bipush 61, 2) := by decide +kernel
theorem dX7_kind_27 : decode cX7_kind 27 = .ok (.istore 4, 2) := by decide +kernel
theorem dX7_kind_29 : decode cX7_kind 29 = .ok (.iconst 0, 1) := by decide +kernel
theorem dX7_kind_30 : decode cX7_kind 30 = .ok (.istore 5, 2) := by decide +kernel
theorem dX7_kind_32 : decode cX7_kind 32 = .ok (.iload 5, 2) := by decide +kernel
theorem dX7_kind_34 : decode cX7_kind 34 = .ok (.iconst 4, 1) := by decide +kernel
theorem dX7_kind_35 : decode cX7_kind 35 = .ok (.if_icmp .ge 62, 3) := by decide +kernel
theorem dX7_kind_38 : decode cX7_kind 38 = .ok (.aload_n 0, 1) := by decide +kernel
theorem dX7_kind_39 : decode cX7_kind 39 = .ok (.getfield 16, 3) := by decide +kernel
theorem dX7_kind_42 : decode cX7_kind 42 = .ok (.aload_n 0, 1) := by decide +kernel
theorem dX7_kind_43 : decode cX7_kind 43 = .ok (.getfield 10, 3) := by decide +kernel
theorem dX7_kind_46 : decode cX7_kind 46 = .ok (.invokevirtual 92, 3) := by decide +kernel
theorem dX7_kind_49 : decode cX7_kind 49 = .ok (.aload_n 0, 1) := by decide +kernel
theorem dX7_kind_50 : decode cX7_kind 50 = .ok (.getfield 16, 3) := by decide +kernel
theorem dX7_kind_53 : decode cX7_kind 53 = .ok (.getfield 129, 3) := by decide +kernel
theorem dX7_kind_56 : decode cX7_kind 56 = .ok (.iload_n 1, 1) := by decide +kernel
theorem dX7_kind_57 : decode cX7_kind 57 = .ok (.iload 5, 2) := by decide +kernel
theorem dX7_kind_59 : decode cX7_kind 59 = .ok (.iastore, 1) := by decide +kernel
theorem dX7_kind_60 : decode cX7_kind 60 = .ok (.aload_n 0, 1) := by decide +kernel
theorem dX7_kind_61 : decode cX7_kind 61 = .ok (.getfield 16, 3) := by decide +kernel
theorem dX7_kind_64 : decode cX7_kind 64 = .ok (.iload_n 1, 1) := by decide +kernel
theorem dX7_kind_65 : decode cX7_kind 65 = .ok (.invokevirtual 180, 3) := by decide +kernel
theorem dX7_kind_68 : decode cX7_kind 68 = .ok (.istore 6, 2) := by decide +kernel
theorem dX7_kind_70 : decode cX7_kind 70 = .ok (.iload 6, 2) := by decide +kernel
theorem dX7_kind_72 : decode cX7_kind 72 = .ok (.bipush (-4), 2) := by decide +kernel
theorem dX7_kind_74 : decode cX7_kind 74 = .ok (.if_icmp .eq 17, 3) := by decide +kernel
theorem dX7_kind_77 : decode cX7_kind 77 = .ok (.iload 6, 2) := by decide +kernel
theorem dX7_kind_79 : decode cX7_kind 79 = .ok (.iload 4, 2) := by decide +kernel
theorem dX7_kind_81 : decode cX7_kind 81 = .ok (.if_icmp .ge 10, 3) := by decide +kernel
theorem dX7_kind_84 : decode cX7_kind 84 = .ok (.iload 6, 2) := by decide +kernel
theorem dX7_kind_86 : decode cX7_kind 86 = .ok (.istore 4, 2) := by decide +kernel
theorem dX7_kind_88 : decode cX7_kind 88 = .ok (.iload 5, 2) := by decide +kernel
theorem dX7_kind_90 : decode cX7_kind 90 = .ok (.istore_n 3, 1) := by decide +kernel
theorem dX7_kind_91 : decode cX7_kind 91 = .ok (.iinc 5 1, 3) := by decide +kernel
theorem dX7_kind_94 : decode cX7_kind 94 = .ok (.goto (-62), 3) := by decide +kernel
theorem dX7_kind_97 : decode cX7_kind 97 = .ok (.iload_n 3, 1) := by decide +kernel
theorem dX7_kind_98 : decode cX7_kind 98 = .ok (.bipush (-4), 2) := by decide +kernel
theorem dX7_kind_100 : decode cX7_kind 100 = .ok (.if_icmp .ne 6, 3) := by decide +kernel
theorem dX7_kind_103 : decode cX7_kind 103 = .ok (.bipush (-4), 2) := by decide +kernel
theorem dX7_kind_105 : decode cX7_kind 105 = .ok (.ireturn, 1) := by decide +kernel
theorem dX7_kind_106 : decode cX7_kind 106 = .ok (.iload_n 2, 1) := by decide +kernel
theorem dX7_kind_107 : decode cX7_kind 107 = .ok (.ifCond .ne 7, 3) := by decide +kernel
theorem dX7_kind_110 : decode cX7_kind 110 = .ok (.iload_n 3, 1) := by decide +kernel
theorem dX7_kind_111 : decode cX7_kind 111 = .ok (.goto 5, 3) := by decide +kernel
theorem dX7_kind_114 : decode cX7_kind 114 = .ok (.iload 4, 2) := by decide +kernel
theorem dX7_kind_116 : decode cX7_kind 116 = .ok (.ireturn, 1) := by decide +kernel
set_option maxRecDepth 20000 in
theorem ggX7_late_X1_has : GoodIn wsX7_late wsX1_has := goodIn_r _ [6, 7, 90, 91, 92, 93, 94, 95, 96] (by decide +kernel) (by decide +kernel)
set_option maxRecDepth 20000 in
theorem gX7_late_X1_has : GoodIn wsX7_late (wsV RX7 125 RX1 yX1_has wsX1_has) := goodIn_app (goodIn_of _ (by decide +kernel)) ggX7_late_X1_has
set_option maxRecDepth 20000 in
theorem ggX7_late_X7_within : GoodIn wsX7_late wsX7_within := goodIn_r _ [11] (by decide +kernel) (by decide +kernel)
set_option maxRecDepth 20000 in
theorem gX7_late_X7_within : GoodIn wsX7_late (va_wsS RX7 65 yX7_within wsX7_within) := goodIn_app (goodIn_of _ (by decide +kernel)) ggX7_late_X7_within
set_option maxRecDepth 20000 in
theorem ggX7_late_X7_daysByDryness : GoodIn wsX7_late wsX7_daysByDryness := goodIn_r _ [15, 16, 1, 17, 18, 19, 20, 5, 21, 7, 22, 23, 24, 25, 26, 27, 28, 29, 30, 31, 32, 33, 34, 35, 36, 37, 38, 39, 40, 41, 42, 43, 44, 45, 46, 47, 48, 49, 50, 51, 52, 53, 54, 55, 56, 57, 58, 59, 60, 61, 62, 63, 64, 65, 66, 67, 68, 69, 70, 71, 72, 73, 74, 75, 76, 77, 78, 79, 80, 81, 82, 83, 84, 85, 86, 87, 88, 89, 90, 91, 92, 93, 94, 95, 96] (by decide +kernel) (by decide +kernel)
set_option maxRecDepth 20000 in
theorem gX7_late_X7_daysByDryness : GoodIn wsX7_late (wsV RX7 217 RX7 yX7_daysByDryness wsX7_daysByDryness) := goodIn_app (goodIn_of _ (by decide +kernel)) ggX7_late_X7_daysByDryness
theorem dX7_late_0 : decode cX7_late 0 = .ok (.aload_n 0, 1) := by decide +kernel
theorem dX7_late_1 : decode cX7_late 1 = .ok (.getfield 10, 3) := by decide +kernel
theorem dX7_late_4 : decode cX7_late 4 = .ok (.iload_n 1, 1) := by decide +kernel
theorem dX7_late_5 : decode cX7_late 5 = .ok (.invokevirtual 125, 3) := by decide +kernel
theorem dX7_late_8 : decode cX7_late 8 = .ok (.ifCond .eq 13, 3) := by decide +kernel
theorem dX7_late_11 : decode cX7_late 11 = .ok (.iload_n 2, 1) := by decide +kernel
theorem dX7_late_12 : decode cX7_late 12 = .ok (.iconst 0, 1) := by decide +kernel
theorem dX7_late_13 : decode cX7_late 13 = .ok (.bipush 9, 2) := by decide +kernel
theorem dX7_late_15 : decode cX7_late 15 = .ok (.invokestatic 65, 3) := by decide +kernel
theorem dX7_late_18 : decode cX7_late 18 = .ok (.ifCond .ne 5, 3) := by decide +kernel
theorem dX7_late_21 : decode cX7_late 21 = .ok (.iconst (-1), 1) := by decide +kernel
theorem dX7_late_22 : decode cX7_late 22 = .ok (.ireturn, 1) := by decide +kernel
theorem dX7_late_23 : decode cX7_late 23 = .ok (.aload_n 0, 1) := by decide +kernel
theorem dX7_late_24 : decode cX7_late 24 = .ok (.iload_n 1, 1) := by decide +kernel
theorem dX7_late_25 : decode cX7_late 25 = .ok (.iconst 0, 1) := by decide +kernel
theorem dX7_late_26 : decode cX7_late 26 = .ok (.invokevirtual 217, 3) := by decide +kernel
theorem dX7_late_29 : decode cX7_late 29 = .ok (.istore_n 3, 1) := by decide +kernel
theorem dX7_late_30 : decode cX7_late 30 = .ok (.aload_n 0, 1) := by decide +kernel
theorem dX7_late_31 : decode cX7_late 31 = .ok (.iload_n 1, 1) := by decide +kernel
theorem dX7_late_32 : decode cX7_late 32 = .ok (.iload_n 2, 1) := by decide +kernel
theorem dX7_late_33 : decode cX7_late 33 = .ok (.invokevirtual 217, 3) := by decide +kernel
theorem dX7_late_36 : decode cX7_late 36 = .ok (.istore 4, 2) := by decide +kernel
theorem dX7_late_38 : decode cX7_late 38 = .ok (.iload_n 3, 1) := by decide +kernel
theorem dX7_late_39 : decode cX7_late 39 = .ok (.bipush (-4), 2) := by decide +kernel
theorem dX7_late_41 : decode cX7_late 41 = .ok (.if_icmp .eq 10, 3) := by decide +kernel
theorem dX7_late_44 : decode cX7_late 44 = .ok (.iload 4, 2) := by decide +kernel
theorem dX7_late_46 : decode cX7_late 46 = .ok (.bipush (-4), 2) := by decide +kernel
theorem dX7_late_48 : decode cX7_late 48 = .ok (.if_icmp .ne 6, 3) := by decide +kernel
theorem dX7_late_51 : decode cX7_late 51 = .ok (.bipush (-4), 2) := by decide +kernel
theorem dX7_late_53 : decode cX7_late 53 = .ok (.ireturn, 1) := by decide +kernel
theorem dX7_late_54 : decode cX7_late 54 = .ok (.iload 4, 2) := by decide +kernel
theorem dX7_late_56 : decode cX7_late 56 = .ok (.iload_n 3, 1) := by decide +kernel
theorem dX7_late_57 : decode cX7_late 57 = .ok (.isub, 1) := by decide +kernel
theorem dX7_late_58 : decode cX7_late 58 = .ok (.ireturn, 1) := by decide +kernel
set_option maxRecDepth 20000 in
theorem ggX7_train_X7_within : GoodIn wsX7_train wsX7_within := goodIn_r _ [7] (by decide +kernel) (by decide +kernel)
set_option maxRecDepth 20000 in
theorem gX7_train_X7_within : GoodIn wsX7_train (va_wsS RX7 65 yX7_within wsX7_within) := goodIn_app (goodIn_of _ (by decide +kernel)) ggX7_train_X7_within
set_option maxRecDepth 20000 in
theorem ggX7_train_X1_become : GoodIn wsX7_train wsX1_become := goodIn_r _ [12, 13, 14, 15, 16, 17, 18, 19, 20, 21, 22, 23, 79, 80, 81, 82, 83, 84, 85] (by decide +kernel) (by decide +kernel)
set_option maxRecDepth 20000 in
theorem gX7_train_X1_become : GoodIn wsX7_train (wsV RX7 92 RX1 yX1_become wsX1_become) := goodIn_app (goodIn_of _ (by decide +kernel)) ggX7_train_X1_become
set_option maxRecDepth 20000 in
theorem ggX7_train_X1_runDays : GoodIn wsX7_train wsX1_runDays := goodIn_r _ [27, 15, 28, 29, 30, 11, 31, 13, 22, 32, 33, 34, 35, 14, 36, 37, 38, 39, 21, 40, 41, 42, 43, 44, 45, 46, 47, 48, 49, 50, 16, 51, 52, 53, 54, 23, 55, 56, 57, 58, 59, 60, 61, 62, 63, 64, 65, 66, 79, 80, 81, 82, 83, 84, 85] (by decide +kernel) (by decide +kernel)
set_option maxRecDepth 20000 in
theorem gX7_train_X1_runDays : GoodIn wsX7_train (wsV RX7 174 RX1 yX1_runDays wsX1_runDays) := goodIn_app (goodIn_of _ (by decide +kernel)) ggX7_train_X1_runDays
set_option maxRecDepth 20000 in
theorem ggX7_train_X1_owedBy : GoodIn wsX7_train wsX1_owedBy := goodIn_r _ [54, 13, 23, 79, 80, 81, 82, 83, 84, 85] (by decide +kernel) (by decide +kernel)
set_option maxRecDepth 20000 in
theorem gX7_train_X1_owedBy : GoodIn wsX7_train (wsV RX7 138 RX1 yX1_owedBy wsX1_owedBy) := goodIn_app (goodIn_of _ (by decide +kernel)) ggX7_train_X1_owedBy
theorem dX7_train_0 : decode cX7_train 0 = .ok (.iload_n 1, 1) := by decide +kernel
theorem dX7_train_1 : decode cX7_train 1 = .ok (.iconst 0, 1) := by decide +kernel
theorem dX7_train_2 : decode cX7_train 2 = .ok (.bipush 60, 2) := by decide +kernel
theorem dX7_train_4 : decode cX7_train 4 = .ok (.invokestatic 65, 3) := by decide +kernel
theorem dX7_train_7 : decode cX7_train 7 = .ok (.ifCond .eq 12, 3) := by decide +kernel
theorem dX7_train_10 : decode cX7_train 10 = .ok (.iload_n 2, 1) := by decide +kernel
theorem dX7_train_11 : decode cX7_train 11 = .ok (.iconst 0, 1) := by decide +kernel
theorem dX7_train_12 : decode cX7_train 12 = .ok (.iconst 1, 1) := by decide +kernel
theorem dX7_train_13 : decode cX7_train 13 = .ok (.invokestatic 65, 3) := by decide +kernel
theorem dX7_train_16 : decode cX7_train 16 = .ok (.ifCond .ne 5, 3) := by decide +kernel
theorem dX7_train_19 : decode cX7_train 19 = .ok (.iconst (-1), 1) := by decide +kernel
theorem dX7_train_20 : decode cX7_train 20 = .ok (.ireturn, 1) := by decide +kernel
theorem dX7_train_21 : decode cX7_train 21 = .ok (.aload_n 0, 1) := by decide +kernel
theorem dX7_train_22 : decode cX7_train 22 = .ok (.getfield 16, 3) := by decide +kernel
theorem dX7_train_25 : decode cX7_train 25 = .ok (.aload_n 0, 1) := by decide +kernel
theorem dX7_train_26 : decode cX7_train 26 = .ok (.getfield 10, 3) := by decide +kernel
theorem dX7_train_29 : decode cX7_train 29 = .ok (.invokevirtual 92, 3) := by decide +kernel
theorem dX7_train_32 : decode cX7_train 32 = .ok (.aload_n 0, 1) := by decide +kernel
theorem dX7_train_33 : decode cX7_train 33 = .ok (.getfield 16, 3) := by decide +kernel
theorem dX7_train_36 : decode cX7_train 36 = .ok (.iload_n 1, 1) := by decide +kernel
theorem dX7_train_37 : decode cX7_train 37 = .ok (.invokevirtual 174, 3) := by decide +kernel
theorem dX7_train_40 : decode cX7_train 40 = .ok (.pop, 1) := by decide +kernel
theorem dX7_train_41 : decode cX7_train 41 = .ok (.bipush (-4), 2) := by decide +kernel
theorem dX7_train_43 : decode cX7_train 43 = .ok (.istore_n 3, 1) := by decide +kernel
theorem dX7_train_44 : decode cX7_train 44 = .ok (.iconst 0, 1) := by decide +kernel
theorem dX7_train_45 : decode cX7_train 45 = .ok (.istore 4, 2) := by decide +kernel
theorem dX7_train_47 : decode cX7_train 47 = .ok (.iconst 0, 1) := by decide +kernel
theorem dX7_train_48 : decode cX7_train 48 = .ok (.istore 5, 2) := by decide +kernel
theorem dX7_train_50 : decode cX7_train 50 = .ok (.iload 5, 2) := by decide +kernel
theorem dX7_train_52 : decode cX7_train 52 = .ok (.aload_n 0, 1) := by decide +kernel
theorem dX7_train_53 : decode cX7_train 53 = .ok (.getfield 16, 3) := by decide +kernel
theorem dX7_train_56 : decode cX7_train 56 = .ok (.getfield 106, 3) := by decide +kernel
theorem dX7_train_59 : decode cX7_train 59 = .ok (.if_icmp .ge 34, 3) := by decide +kernel
theorem dX7_train_62 : decode cX7_train 62 = .ok (.aload_n 0, 1) := by decide +kernel
theorem dX7_train_63 : decode cX7_train 63 = .ok (.getfield 16, 3) := by decide +kernel
theorem dX7_train_66 : decode cX7_train 66 = .ok (.iload 5, 2) := by decide +kernel
theorem dX7_train_68 : decode cX7_train 68 = .ok (.invokevirtual 138, 3) := by decide +kernel
theorem dX7_train_71 : decode cX7_train 71 = .ok (.istore 6, 2) := by decide +kernel
theorem dX7_train_73 : decode cX7_train 73 = .ok (.iload 6, 2) := by decide +kernel
theorem dX7_train_75 : decode cX7_train 75 = .ok (.iload 4, 2) := by decide +kernel
theorem dX7_train_77 : decode cX7_train 77 = .ok (.if_icmp .le 10, 3) := by decide +kernel
theorem dX7_train_80 : decode cX7_train 80 = .ok (.iload 6, 2) := by decide +kernel
theorem dX7_train_82 : decode cX7_train 82 = .ok (.istore 4, 2) := by decide +kernel
theorem dX7_train_84 : decode cX7_train 84 = .ok (.iload 5, 2) := by decide +kernel
theorem dX7_train_86 : decode cX7_train 86 = .ok (.istore_n 3, 1) := by decide +kernel
theorem dX7_train_87 : decode cX7_train 87 = .ok (.iinc 5 1, 3) := by decide +kernel
theorem dX7_train_90 : decode cX7_train 90 = .ok (.goto (-40), 3) := by decide +kernel
theorem dX7_train_93 : decode cX7_train 93 = .ok (.iload_n 3, 1) := by decide +kernel
theorem dX7_train_94 : decode cX7_train 94 = .ok (.bipush (-4), 2) := by decide +kernel
theorem dX7_train_96 : decode cX7_train 96 = .ok (.if_icmp .ne 6, 3) := by decide +kernel
theorem dX7_train_99 : decode cX7_train 99 = .ok (.bipush (-4), 2) := by decide +kernel
theorem dX7_train_101 : decode cX7_train 101 = .ok (.ireturn, 1) := by decide +kernel
theorem dX7_train_102 : decode cX7_train 102 = .ok (.iload_n 2, 1) := by decide +kernel
theorem dX7_train_103 : decode cX7_train 103 = .ok (.ifCond .ne 7, 3) := by decide +kernel
theorem dX7_train_106 : decode cX7_train 106 = .ok (.iload_n 3, 1) := by decide +kernel
theorem dX7_train_107 : decode cX7_train 107 = .ok (.goto 5, 3) := by decide +kernel
theorem dX7_train_110 : decode cX7_train 110 = .ok (.iload 4, 2) := by decide +kernel
theorem dX7_train_112 : decode cX7_train 112 = .ok (.ireturn, 1) := by decide +kernel
set_option maxRecDepth 20000 in
theorem ggX7_luck_X1_has : GoodIn wsX7_luck wsX1_has := goodIn_r _ [8, 9, 110, 111, 112, 113, 114, 115, 116] (by decide +kernel) (by decide +kernel)
set_option maxRecDepth 20000 in
theorem gX7_luck_X1_has : GoodIn wsX7_luck (wsV RX7 125 RX1 yX1_has wsX1_has) := goodIn_app (goodIn_of _ (by decide +kernel)) ggX7_luck_X1_has
set_option maxRecDepth 20000 in
theorem ggX7_luck_X7_areOdds : GoodIn wsX7_luck wsX7_areOdds := goodIn_r _ [13, 14, 15, 12, 16] (by decide +kernel) (by decide +kernel)
set_option maxRecDepth 20000 in
theorem gX7_luck_X7_areOdds : GoodIn wsX7_luck (va_wsS RX7 220 yX7_areOdds wsX7_areOdds) := goodIn_app (goodIn_of _ (by decide +kernel)) ggX7_luck_X7_areOdds
set_option maxRecDepth 20000 in
theorem ggX7_luck_X2_fractionOf : GoodIn wsX7_luck wsX2_fractionOf := goodIn_r _ [21, 22, 23, 24, 25, 26, 27, 28, 29, 30, 7, 31, 9, 32, 33, 34, 35, 36, 37, 38, 39, 40, 41, 42, 43, 44, 20, 45, 46, 47, 48, 49, 50, 51, 52, 53, 54, 55, 56, 57, 58, 59, 60, 61, 62, 63, 64, 65, 66, 67, 68, 69, 70, 71, 72, 73, 74, 75, 76, 77, 78, 79, 80, 81, 82, 83, 84, 85, 86, 87, 88, 89, 90, 91, 92, 93, 94, 95, 96, 97, 98, 117, 110, 111, 112, 113, 114, 115, 116] (by decide +kernel) (by decide +kernel)
set_option maxRecDepth 20000 in
theorem gX7_luck_X2_fractionOf : GoodIn wsX7_luck (wsV RX7 225 RX2 yX2_fractionOf wsX2_fractionOf) := goodIn_app (goodIn_of _ (by decide +kernel)) ggX7_luck_X2_fractionOf
theorem dX7_luck_0 : decode cX7_luck 0 = .ok (.aload_n 0, 1) := by decide +kernel
theorem dX7_luck_1 : decode cX7_luck 1 = .ok (.getfield 10, 3) := by decide +kernel
theorem dX7_luck_4 : decode cX7_luck 4 = .ok (.iload_n 2, 1) := by decide +kernel
theorem dX7_luck_5 : decode cX7_luck 5 = .ok (.invokevirtual 125, 3) := by decide +kernel
theorem dX7_luck_8 : decode cX7_luck 8 = .ok (.ifCond .eq 13, 3) := by decide +kernel
theorem dX7_luck_11 : decode cX7_luck 11 = .ok (.iload_n 1, 1) := by decide +kernel
theorem dX7_luck_12 : decode cX7_luck 12 = .ok (.iload_n 3, 1) := by decide +kernel
theorem dX7_luck_13 : decode cX7_luck 13 = .ok (.iload 4, 2) := by decide +kernel
theorem dX7_luck_15 : decode cX7_luck 15 = .ok (.invokestatic 220, 3) := by decide +kernel
theorem dX7_luck_18 : decode cX7_luck 18 = .ok (.ifCond .ne 7, 3) := by decide +kernel
theorem dX7_luck_21 : decode cX7_luck 21 = .ok (.ldc2_w 223, 3) := by decide +kernel
theorem dX7_luck_24 : decode cX7_luck 24 = .ok (.lreturn, 1) := by decide +kernel
theorem dX7_luck_25 : decode cX7_luck 25 = .ok (.aload_n 0, 1) := by decide +kernel
theorem dX7_luck_26 : decode cX7_luck 26 = .ok (.getfield 22, 3) := by decide +kernel
theorem dX7_luck_29 : decode cX7_luck 29 = .ok (.aload_n 0, 1) := by decide +kernel
theorem dX7_luck_30 : decode cX7_luck 30 = .ok (.getfield 10, 3) := by decide +kernel
theorem dX7_luck_33 : decode cX7_luck 33 = .ok (.iload_n 1, 1) := by decide +kernel
theorem dX7_luck_34 : decode cX7_luck 34 = .ok (.iload_n 2, 1) := by decide +kernel
theorem dX7_luck_35 : decode cX7_luck 35 = .ok (.iload_n 3, 1) := by decide +kernel
theorem dX7_luck_36 : decode cX7_luck 36 = .ok (.iload 4, 2) := by decide +kernel
theorem dX7_luck_38 : decode cX7_luck 38 = .ok (.invokevirtual 225, 3) := by decide +kernel
theorem dX7_luck_41 : decode cX7_luck 41 = .ok (.lreturn, 1) := by decide +kernel
set_option maxRecDepth 20000 in
theorem ggX7_mean_X7_areOdds : GoodIn wsX7_mean wsX7_areOdds := goodIn_r _ [7, 8, 9, 6, 10] (by decide +kernel) (by decide +kernel)
set_option maxRecDepth 20000 in
theorem gX7_mean_X7_areOdds : GoodIn wsX7_mean (va_wsS RX7 220 yX7_areOdds wsX7_areOdds) := goodIn_app (goodIn_of _ (by decide +kernel)) ggX7_mean_X7_areOdds
set_option maxRecDepth 20000 in
theorem ggX7_mean_X2_fractionOf : GoodIn wsX7_mean wsX2_fractionOf := goodIn_r _ [15, 16, 17, 18, 19, 20, 21, 22, 23, 24, 25, 26, 27, 28, 29, 30, 31, 32, 33, 34, 35, 36, 37, 38, 39, 40, 14, 41, 42, 43, 44, 45, 46, 47, 48, 49, 50, 51, 52, 53, 54, 55, 56, 57, 58, 59, 60, 61, 62, 63, 64, 65, 66, 67, 68, 69, 70, 71, 72, 73, 74, 75, 76, 77, 78, 79, 80, 81, 82, 83, 84, 85, 86, 87, 88, 89, 90, 91, 92, 93, 94, 106, 107, 108, 109, 110, 111, 112, 113] (by decide +kernel) (by decide +kernel)
set_option maxRecDepth 20000 in
theorem gX7_mean_X2_fractionOf : GoodIn wsX7_mean (wsV RX7 225 RX2 yX2_fractionOf wsX2_fractionOf) := goodIn_app (goodIn_of _ (by decide +kernel)) ggX7_mean_X2_fractionOf
theorem dX7_mean_0 : decode cX7_mean 0 = .ok (.iload_n 1, 1) := by decide +kernel
theorem dX7_mean_1 : decode cX7_mean 1 = .ok (.iload_n 2, 1) := by decide +kernel
theorem dX7_mean_2 : decode cX7_mean 2 = .ok (.iload_n 3, 1) := by decide +kernel
theorem dX7_mean_3 : decode cX7_mean 3 = .ok (.invokestatic 220, 3) := by decide +kernel
theorem dX7_mean_6 : decode cX7_mean 6 = .ok (.ifCond .ne 7, 3) := by decide +kernel
theorem dX7_mean_9 : decode cX7_mean 9 = .ok (.ldc2_w 223, 3) := by decide +kernel
theorem dX7_mean_12 : decode cX7_mean 12 = .ok (.lreturn, 1) := by decide +kernel
theorem dX7_mean_13 : decode cX7_mean 13 = .ok (.aload_n 0, 1) := by decide +kernel
theorem dX7_mean_14 : decode cX7_mean 14 = .ok (.getfield 22, 3) := by decide +kernel
theorem dX7_mean_17 : decode cX7_mean 17 = .ok (.aload_n 0, 1) := by decide +kernel
theorem dX7_mean_18 : decode cX7_mean 18 = .ok (.getfield 10, 3) := by decide +kernel
theorem dX7_mean_21 : decode cX7_mean 21 = .ok (.iload_n 1, 1) := by decide +kernel
theorem dX7_mean_22 : decode cX7_mean 22 = .ok (.iconst (-1), 1) := by decide +kernel
theorem dX7_mean_23 : decode cX7_mean 23 = .ok (.iload_n 2, 1) := by decide +kernel
theorem dX7_mean_24 : decode cX7_mean 24 = .ok (.iload_n 3, 1) := by decide +kernel
theorem dX7_mean_25 : decode cX7_mean 25 = .ok (.invokevirtual 225, 3) := by decide +kernel
theorem dX7_mean_28 : decode cX7_mean 28 = .ok (.lreturn, 1) := by decide +kernel
set_option maxRecDepth 20000 in
theorem ggX7_see_X7_within : GoodIn wsX7_see wsX7_within := goodIn_r _ [7] (by decide +kernel) (by decide +kernel)
set_option maxRecDepth 20000 in
theorem gX7_see_X7_within : GoodIn wsX7_see (va_wsS RX7 65 yX7_within wsX7_within) := goodIn_app (goodIn_of _ (by decide +kernel)) ggX7_see_X7_within
set_option maxRecDepth 20000 in
theorem ggX7_see_X1_has : GoodIn wsX7_see wsX1_has := goodIn_r _ [12, 13, 38, 39, 40, 41, 42, 43, 44] (by decide +kernel) (by decide +kernel)
set_option maxRecDepth 20000 in
theorem gX7_see_X1_has : GoodIn wsX7_see (wsV RX7 125 RX1 yX1_has wsX1_has) := goodIn_app (goodIn_of _ (by decide +kernel)) ggX7_see_X1_has
set_option maxRecDepth 20000 in
theorem ggX7_see_X5_add : GoodIn wsX7_see wsX5_add := goodIn_r _ [18, 19, 20, 21, 22, 34, 35, 36, 37] (by decide +kernel) (by decide +kernel)
set_option maxRecDepth 20000 in
theorem gX7_see_X5_add : GoodIn wsX7_see (wsV RX7 229 RX5 yX5_add wsX5_add) := goodIn_app (goodIn_of _ (by decide +kernel)) ggX7_see_X5_add
theorem dX7_see_0 : decode cX7_see 0 = .ok (.iload_n 1, 1) := by decide +kernel
theorem dX7_see_1 : decode cX7_see 1 = .ok (.iconst 0, 1) := by decide +kernel
theorem dX7_see_2 : decode cX7_see 2 = .ok (.bipush 30, 2) := by decide +kernel
theorem dX7_see_4 : decode cX7_see 4 = .ok (.invokestatic 65, 3) := by decide +kernel
theorem dX7_see_7 : decode cX7_see 7 = .ok (.ifCond .eq 14, 3) := by decide +kernel
theorem dX7_see_10 : decode cX7_see 10 = .ok (.aload_n 0, 1) := by decide +kernel
theorem dX7_see_11 : decode cX7_see 11 = .ok (.getfield 10, 3) := by decide +kernel
theorem dX7_see_14 : decode cX7_see 14 = .ok (.iload_n 2, 1) := by decide +kernel
theorem dX7_see_15 : decode cX7_see 15 = .ok (.invokevirtual 125, 3) := by decide +kernel
theorem dX7_see_18 : decode cX7_see 18 = .ok (.ifCond .ne 5, 3) := by decide +kernel
theorem dX7_see_21 : decode cX7_see 21 = .ok (.iconst (-1), 1) := by decide +kernel
theorem dX7_see_22 : decode cX7_see 22 = .ok (.ireturn, 1) := by decide +kernel
theorem dX7_see_23 : decode cX7_see 23 = .ok (.aload_n 0, 1) := by decide +kernel
theorem dX7_see_24 : decode cX7_see 24 = .ok (.getfield 36, 3) := by decide +kernel
theorem dX7_see_27 : decode cX7_see 27 = .ok (.getfield 96, 3) := by decide +kernel
theorem dX7_see_30 : decode cX7_see 30 = .ok (.bipush 6, 2) := by decide +kernel
theorem dX7_see_32 : decode cX7_see 32 = .ok (.if_icmp .lt 6, 3) := by decide +kernel
theorem dX7_see_35 : decode cX7_see 35 = .ok (.bipush (-3), 2) := by decide +kernel
theorem dX7_see_37 : decode cX7_see 37 = .ok (.ireturn, 1) := by decide +kernel
theorem dX7_see_38 : decode cX7_see 38 = .ok (.aload_n 0, 1) := by decide +kernel
theorem dX7_see_39 : decode cX7_see 39 = .ok (.getfield 36, 3) := by decide +kernel
theorem dX7_see_42 : decode cX7_see 42 = .ok (.iload_n 1, 1) := by decide +kernel
theorem dX7_see_43 : decode cX7_see 43 = .ok (.iload_n 2, 1) := by decide +kernel
theorem dX7_see_44 : decode cX7_see 44 = .ok (.iload_n 3, 1) := by decide +kernel
theorem dX7_see_45 : decode cX7_see 45 = .ok (.invokevirtual 229, 3) := by decide +kernel
theorem dX7_see_48 : decode cX7_see 48 = .ok (.aload_n 0, 1) := by decide +kernel
theorem dX7_see_49 : decode cX7_see 49 = .ok (.getfield 36, 3) := by decide +kernel
theorem dX7_see_52 : decode cX7_see 52 = .ok (.getfield 96, 3) := by decide +kernel
theorem dX7_see_55 : decode cX7_see 55 = .ok (.ireturn, 1) := by decide +kernel
set_option maxRecDepth 20000 in
theorem ggX7_forget_X7_within : GoodIn wsX7_forget wsX7_within := goodIn_r _ [6] (by decide +kernel) (by decide +kernel)
set_option maxRecDepth 20000 in
theorem gX7_forget_X7_within : GoodIn wsX7_forget (va_wsS RX7 65 yX7_within wsX7_within) := goodIn_app (goodIn_of _ (by decide +kernel)) ggX7_forget_X7_within
theorem dX7_forget_0 : decode cX7_forget 0 = .ok (.iload_n 1, 1) := by decide +kernel
theorem dX7_forget_1 : decode cX7_forget 1 = .ok (.iconst 0, 1) := by decide +kernel
theorem dX7_forget_2 : decode cX7_forget 2 = .ok (.aload_n 0, 1) := by decide +kernel
theorem dX7_forget_3 : decode cX7_forget 3 = .ok (.getfield 36, 3) := by decide +kernel
theorem dX7_forget_6 : decode cX7_forget 6 = .ok (.getfield 96, 3) := by decide +kernel
theorem dX7_forget_9 : decode cX7_forget 9 = .ok (.invokestatic 65, 3) := by decide +kernel
theorem dX7_forget_12 : decode cX7_forget 12 = .ok (.ifCond .ne 5, 3) := by decide +kernel
theorem dX7_forget_15 : decode cX7_forget 15 = .ok (.iconst (-1), 1) := by decide +kernel
theorem dX7_forget_16 : decode cX7_forget 16 = .ok (.ireturn, 1) := by decide +kernel
theorem dX7_forget_17 : decode cX7_forget 17 = .ok (.aload_n 0, 1) := by decide +kernel
theorem dX7_forget_18 : decode cX7_forget 18 = .ok (.getfield 36, 3) := by decide +kernel
theorem dX7_forget_21 : decode cX7_forget 21 = .ok (.getfield 96, 3) := by decide +kernel
theorem dX7_forget_24 : decode cX7_forget 24 = .ok (.istore_n 2, 1) := by decide +kernel
theorem dX7_forget_25 : decode cX7_forget 25 = .ok (.aload_n 0, 1) := by decide +kernel
theorem dX7_forget_26 : decode cX7_forget 26 = .ok (.getfield 36, 3) := by decide +kernel
theorem dX7_forget_29 : decode cX7_forget 29 = .ok (.iload_n 1, 1) := by decide +kernel
theorem dX7_forget_30 : decode cX7_forget 30 = .ok (.putfield 96, 3) := by decide +kernel
theorem dX7_forget_33 : decode cX7_forget 33 = .ok (.iload_n 2, 1) := by decide +kernel
theorem dX7_forget_34 : decode cX7_forget 34 = .ok (.ireturn, 1) := by decide +kernel
set_option maxRecDepth 20000 in
theorem ggX7_kinds_X1_has : GoodIn wsX7_kinds wsX1_has := goodIn_r _ [9, 10, 98, 99, 100, 101, 102, 103, 104] (by decide +kernel) (by decide +kernel)
set_option maxRecDepth 20000 in
theorem gX7_kinds_X1_has : GoodIn wsX7_kinds (wsV RX7 125 RX1 yX1_has wsX1_has) := goodIn_app (goodIn_of _ (by decide +kernel)) ggX7_kinds_X1_has
set_option maxRecDepth 20000 in
theorem ggX7_kinds_X1_become : GoodIn wsX7_kinds wsX1_become := goodIn_r _ [14, 10, 15, 16, 17, 18, 19, 20, 21, 22, 23, 24, 98, 99, 100, 101, 102, 103, 104] (by decide +kernel) (by decide +kernel)
set_option maxRecDepth 20000 in
theorem gX7_kinds_X1_become : GoodIn wsX7_kinds (wsV RX7 92 RX1 yX1_become wsX1_become) := goodIn_app (goodIn_of _ (by decide +kernel)) ggX7_kinds_X1_become
set_option maxRecDepth 20000 in
theorem ggX7_kinds_X5_fits : GoodIn wsX7_kinds wsX5_fits := goodIn_r _ [29, 30, 31, 32, 33, 28, 34, 35, 36, 37, 38, 39, 40, 41, 42, 43, 44, 45, 46, 47, 48, 49, 8, 50, 51, 52, 53, 54, 10, 24, 55, 56, 57, 58, 23, 59, 15, 60, 61, 62, 63, 22, 64, 65, 66, 67, 68, 69, 70, 71, 72, 73, 74, 17, 75, 76, 77, 78, 79, 80, 81, 82, 83, 84, 85, 86, 98, 99, 100, 101, 102, 103, 104, 105, 106, 107, 108] (by decide +kernel) (by decide +kernel)
set_option maxRecDepth 20000 in
theorem gX7_kinds_X5_fits : GoodIn wsX7_kinds (wsV RX7 233 RX5 yX5_fits wsX5_fits) := goodIn_app (goodIn_of _ (by decide +kernel)) ggX7_kinds_X5_fits
theorem dX7_kinds_0 : decode cX7_kinds 0 = .ok (.aload_n 0, 1) := by decide +kernel
theorem dX7_kinds_1 : decode cX7_kinds 1 = .ok (.getfield 10, 3) := by decide +kernel
theorem dX7_kinds_4 : decode cX7_kinds 4 = .ok (.iload_n 1, 1) := by decide +kernel
theorem dX7_kinds_5 : decode cX7_kinds 5 = .ok (.invokevirtual 125, 3) := by decide +kernel
theorem dX7_kinds_8 : decode cX7_kinds 8 = .ok (.ifCond .ne 5, 3) := by decide +kernel
theorem dX7_kinds_11 : decode cX7_kinds 11 = .ok (.iconst (-1), 1) := by decide +kernel
theorem dX7_kinds_12 : decode cX7_kinds 12 = .ok (.ireturn, 1) := by decide +kernel
theorem dX7_kinds_13 : decode cX7_kinds 13 = .ok (.iconst 0, 1) := by decide +kernel
theorem dX7_kinds_14 : decode cX7_kinds 14 = .ok (.istore_n 2, 1) := by decide +kernel
theorem dX7_kinds_15 : decode cX7_kinds 15 = .ok (.iconst 0, 1) := by decide +kernel
theorem dX7_kinds_16 : decode cX7_kinds 16 = .ok (.istore_n 3, 1) := by decide +kernel
theorem dX7_kinds_17 : decode cX7_kinds 17 = .ok (.iload_n 3, 1) := by decide +kernel
theorem dX7_kinds_18 : decode cX7_kinds 18 = .ok (.iconst 4, 1) := by decide +kernel
theorem dX7_kinds_19 : decode cX7_kinds 19 = .ok (.if_icmp .ge 50, 3) := by decide +kernel
theorem dX7_kinds_22 : decode cX7_kinds 22 = .ok (.aload_n 0, 1) := by decide +kernel
theorem dX7_kinds_23 : decode cX7_kinds 23 = .ok (.getfield 16, 3) := by decide +kernel
theorem dX7_kinds_26 : decode cX7_kinds 26 = .ok (.aload_n 0, 1) := by decide +kernel
theorem dX7_kinds_27 : decode cX7_kinds 27 = .ok (.getfield 10, 3) := by decide +kernel
theorem dX7_kinds_30 : decode cX7_kinds 30 = .ok (.invokevirtual 92, 3) := by decide +kernel
theorem dX7_kinds_33 : decode cX7_kinds 33 = .ok (.aload_n 0, 1) := by decide +kernel
theorem dX7_kinds_34 : decode cX7_kinds 34 = .ok (.getfield 16, 3) := by decide +kernel
theorem dX7_kinds_37 : decode cX7_kinds 37 = .ok (.getfield 129, 3) := by decide +kernel
theorem dX7_kinds_40 : decode cX7_kinds 40 = .ok (.iload_n 1, 1) := by decide +kernel
theorem dX7_kinds_41 : decode cX7_kinds 41 = .ok (.iload_n 3, 1) := by decide +kernel
theorem dX7_kinds_42 : decode cX7_kinds 42 = .ok (.iastore, 1) := by decide +kernel
theorem dX7_kinds_43 : decode cX7_kinds 43 = .ok (.aload_n 0, 1) := by decide +kernel
theorem dX7_kinds_44 : decode cX7_kinds 44 = .ok (.getfield 36, 3) := by decide +kernel
theorem dX7_kinds_47 : decode cX7_kinds 47 = .ok (.aload_n 0, 1) := by decide +kernel
theorem dX7_kinds_48 : decode cX7_kinds 48 = .ok (.getfield 16, 3) := by decide +kernel
theorem dX7_kinds_51 : decode cX7_kinds 51 = .ok (.invokevirtual 233, 3) := by decide +kernel
theorem dX7_kinds_54 : decode cX7_kinds 54 = .ok (.ifCond .eq 9, 3) := by decide +kernel
theorem dX7_kinds_57 : decode cX7_kinds 57 = .ok (.iload_n 2, 1) := by decide +kernel
theorem dX7_kinds_58 : decode cX7_kinds 58 = .ok (.iconst 1, 1) := by decide +kernel
theorem dX7_kinds_59 : decode cX7_kinds 59 = .ok (.iload_n 3, 1) := by decide +kernel
theorem dX7_kinds_60 : decode cX7_kinds 60 = .ok (.ishl, 1) := by decide +kernel
theorem dX7_kinds_61 : decode cX7_kinds 61 = .ok (.ior, 1) := by decide +kernel
theorem dX7_kinds_62 : decode cX7_kinds 62 = .ok (.istore_n 2, 1) := by decide +kernel
theorem dX7_kinds_63 : decode cX7_kinds 63 = .ok (.iinc 3 1, 3) := by decide +kernel
theorem dX7_kinds_66 : decode cX7_kinds 66 = .ok (.goto (-49), 3) := by decide +kernel
theorem dX7_kinds_69 : decode cX7_kinds 69 = .ok (.iload_n 2, 1) := by decide +kernel
theorem dX7_kinds_70 : decode cX7_kinds 70 = .ok (.ireturn, 1) := by decide +kernel
set_option maxRecDepth 20000 in
theorem ggX7_earns_X1_has : GoodIn wsX7_earns wsX1_has := goodIn_r _ [6, 7, 103, 104, 105, 106, 107, 108, 109] (by decide +kernel) (by decide +kernel)
set_option maxRecDepth 20000 in
theorem gX7_earns_X1_has : GoodIn wsX7_earns (wsV RX7 125 RX1 yX1_has wsX1_has) := goodIn_app (goodIn_of _ (by decide +kernel)) ggX7_earns_X1_has
set_option maxRecDepth 20000 in
theorem ggX7_earns_X7_possibleWages : GoodIn wsX7_earns wsX7_possibleWages := goodIn_r _ [12, 13, 1, 14, 15, 16, 17, 18, 5, 19, 7, 20, 21, 22, 23, 24, 25, 26, 27, 28, 29, 30, 31, 32, 33, 34, 35, 36, 37, 38, 39, 40, 41, 42, 43, 44, 45, 46, 47, 48, 49, 50, 51, 52, 53, 54, 55, 56, 57, 58, 59, 60, 61, 62, 63, 64, 65, 66, 67, 68, 69, 70, 71, 72, 73, 74, 75, 76, 77, 78, 79, 80, 81, 82, 83, 84, 85, 86, 87, 88, 89, 90, 91, 92, 93, 94, 95, 96, 97, 98, 99, 100, 101, 102, 103, 104, 105, 106, 107, 108, 109, 110, 111, 112, 113] (by decide +kernel) (by decide +kernel)
set_option maxRecDepth 20000 in
theorem gX7_earns_X7_possibleWages : GoodIn wsX7_earns (wsV RX7 236 RX7 yX7_possibleWages wsX7_possibleWages) := goodIn_app (goodIn_of _ (by decide +kernel)) ggX7_earns_X7_possibleWages
theorem dX7_earns_0 : decode cX7_earns 0 = .ok (.aload_n 0, 1) := by decide +kernel
theorem dX7_earns_1 : decode cX7_earns 1 = .ok (.getfield 10, 3) := by decide +kernel
theorem dX7_earns_4 : decode cX7_earns 4 = .ok (.iload_n 1, 1) := by decide +kernel
theorem dX7_earns_5 : decode cX7_earns 5 = .ok (.invokevirtual 125, 3) := by decide +kernel
theorem dX7_earns_8 : decode cX7_earns 8 = .ok (.ifCond .ne 5, 3) := by decide +kernel
theorem dX7_earns_11 : decode cX7_earns 11 = .ok (.iconst (-1), 1) := by decide +kernel
theorem dX7_earns_12 : decode cX7_earns 12 = .ok (.ireturn, 1) := by decide +kernel
theorem dX7_earns_13 : decode cX7_earns 13 = .ok (.aload_n 0, 1) := by decide +kernel
theorem dX7_earns_14 : decode cX7_earns 14 = .ok (.iload_n 1, 1) := by decide +kernel
theorem dX7_earns_15 : decode cX7_earns 15 = .ok (.invokevirtual 236, 3) := by decide +kernel
theorem dX7_earns_18 : decode cX7_earns 18 = .ok (.ireturn, 1) := by decide +kernel
set_option maxRecDepth 20000 in
theorem ggX7_ask_X1_has : GoodIn wsX7_ask wsX1_has := goodIn_r _ [11, 12, 126, 127, 128, 129, 130, 131, 132] (by decide +kernel) (by decide +kernel)
set_option maxRecDepth 20000 in
theorem gX7_ask_X1_has : GoodIn wsX7_ask (wsV RX7 125 RX1 yX1_has wsX1_has) := goodIn_app (goodIn_of _ (by decide +kernel)) ggX7_ask_X1_has
set_option maxRecDepth 20000 in
theorem ggX7_ask_X7_within : GoodIn wsX7_ask wsX7_within := goodIn_r _ [16] (by decide +kernel) (by decide +kernel)
set_option maxRecDepth 20000 in
theorem gX7_ask_X7_within : GoodIn wsX7_ask (va_wsS RX7 65 yX7_within wsX7_within) := goodIn_app (goodIn_of _ (by decide +kernel)) ggX7_ask_X7_within
set_option maxRecDepth 20000 in
theorem ggX7_ask_X7_possibleWages : GoodIn wsX7_ask wsX7_possibleWages := goodIn_r _ [20, 21, 1, 22, 23, 24, 25, 26, 10, 27, 12, 28, 29, 30, 31, 32, 33, 34, 35, 36, 37, 38, 39, 40, 41, 42, 43, 44, 45, 46, 47, 48, 49, 50, 4, 5, 6, 51, 52, 53, 54, 55, 56, 57, 58, 59, 60, 61, 62, 63, 64, 65, 66, 67, 68, 69, 70, 71, 72, 73, 74, 75, 76, 77, 78, 79, 80, 81, 82, 83, 84, 85, 86, 87, 88, 89, 90, 91, 92, 93, 94, 95, 96, 115, 116, 117, 118, 119, 120, 121, 122, 123, 124, 125, 126, 127, 128, 129, 130, 131, 132, 133, 134, 135, 136] (by decide +kernel) (by decide +kernel)
set_option maxRecDepth 20000 in
theorem gX7_ask_X7_possibleWages : GoodIn wsX7_ask (wsV RX7 236 RX7 yX7_possibleWages wsX7_possibleWages) := goodIn_app (goodIn_of _ (by decide +kernel)) ggX7_ask_X7_possibleWages
set_option maxRecDepth 20000 in
theorem ggX7_ask_X7_countUpBehind : GoodIn wsX7_ask wsX7_countUpBehind := goodIn_r _ [100, 2, 21, 1, 22, 101, 102, 103, 104, 105, 24, 25, 26, 10, 27, 12, 28, 29, 30, 31, 32, 33, 34, 35, 36, 37, 106, 58, 59, 60, 61, 62, 63, 64, 107, 66, 67, 68, 69, 4, 5, 6, 70, 71, 72, 73, 74, 75, 76, 77, 78, 79, 80, 81, 82, 83, 84, 85, 86, 87, 88, 89, 90, 91, 92, 93, 94, 95, 96, 115, 116, 117, 118, 119, 120, 121, 122, 123, 124, 125, 126, 127, 128, 129, 130, 131, 132] (by decide +kernel) (by decide +kernel)
set_option maxRecDepth 20000 in
theorem gX7_ask_X7_countUpBehind : GoodIn wsX7_ask (wsV RX7 239 RX7 yX7_countUpBehind wsX7_countUpBehind) := goodIn_app (goodIn_of _ (by decide +kernel)) ggX7_ask_X7_countUpBehind
set_option maxRecDepth 20000 in
theorem ggX7_ask_J6_bitCount_0f7a4 : GoodIn wsX7_ask wsJ6_bitCount_0f7a4 := goodIn_r _ [111, 112, 113, 114] (by decide +kernel) (by decide +kernel)
set_option maxRecDepth 20000 in
theorem gX7_ask_J6_bitCount_0f7a4 : GoodIn wsX7_ask (va_wsS RX7 242 yJ6_bitCount_0f7a4 wsJ6_bitCount_0f7a4) := goodIn_app (goodIn_of _ (by decide +kernel)) ggX7_ask_J6_bitCount_0f7a4
theorem dX7_ask_0 : decode cX7_ask 0 = .ok (.aload_n 0, 1) := by decide +kernel
theorem dX7_ask_1 : decode cX7_ask 1 = .ok (.getfield 10, 3) := by decide +kernel
theorem dX7_ask_4 : decode cX7_ask 4 = .ok (.iload_n 1, 1) := by decide +kernel
theorem dX7_ask_5 : decode cX7_ask 5 = .ok (.invokevirtual 125, 3) := by decide +kernel
theorem dX7_ask_8 : decode cX7_ask 8 = .ok (.ifCond .eq 12, 3) := by decide +kernel
theorem dX7_ask_11 : decode cX7_ask 11 = .ok (.iload_n 2, 1) := by decide +kernel
theorem dX7_ask_12 : decode cX7_ask 12 = .ok (.iconst 0, 1) := by decide +kernel
theorem dX7_ask_13 : decode cX7_ask 13 = .ok (.iconst 1, 1) := by decide +kernel
theorem dX7_ask_14 : decode cX7_ask 14 = .ok (.invokestatic 65, 3) := by decide +kernel
theorem dX7_ask_17 : decode cX7_ask 17 = .ok (.ifCond .ne 5, 3) := by decide +kernel
theorem dX7_ask_20 : decode cX7_ask 20 = .ok (.iconst (-1), 1) := by decide +kernel
theorem dX7_ask_21 : decode cX7_ask 21 = .ok (.ireturn, 1) := by decide +kernel
theorem dX7_ask_22 : decode cX7_ask 22 = .ok (.aload_n 0, 1) := by decide +kernel
theorem dX7_ask_23 : decode cX7_ask 23 = .ok (.iload_n 1, 1) := by decide +kernel
theorem dX7_ask_24 : decode cX7_ask 24 = .ok (.invokevirtual 236, 3) := by decide +kernel
theorem dX7_ask_27 : decode cX7_ask 27 = .ok (.istore_n 3, 1) := by decide +kernel
theorem dX7_ask_28 : decode cX7_ask 28 = .ok (.aload_n 0, 1) := by decide +kernel
theorem dX7_ask_29 : decode cX7_ask 29 = .ok (.iload_n 1, 1) := by decide +kernel
theorem dX7_ask_30 : decode cX7_ask 30 = .ok (.iload_n 3, 1) := by decide +kernel
theorem dX7_ask_31 : decode cX7_ask 31 = .ok (.invokevirtual 239, 3) := by decide +kernel
theorem dX7_ask_34 : decode cX7_ask 34 = .ok (.iload_n 3, 1) := by decide +kernel
theorem dX7_ask_35 : decode cX7_ask 35 = .ok (.invokestatic 242, 3) := by decide +kernel
theorem dX7_ask_38 : decode cX7_ask 38 = .ok (.istore 4, 2) := by decide +kernel
theorem dX7_ask_40 : decode cX7_ask 40 = .ok (.iload 4, 2) := by decide +kernel
theorem dX7_ask_42 : decode cX7_ask 42 = .ok (.istore 5, 2) := by decide +kernel
theorem dX7_ask_44 : decode cX7_ask 44 = .ok (.bipush (-4), 2) := by decide +kernel
theorem dX7_ask_46 : decode cX7_ask 46 = .ok (.istore 6, 2) := by decide +kernel
theorem dX7_ask_48 : decode cX7_ask 48 = .ok (.iconst 0, 1) := by decide +kernel
theorem dX7_ask_49 : decode cX7_ask 49 = .ok (.istore 7, 2) := by decide +kernel
theorem dX7_ask_51 : decode cX7_ask 51 = .ok (.iload 7, 2) := by decide +kernel
theorem dX7_ask_53 : decode cX7_ask 53 = .ok (.bipush 30, 2) := by decide +kernel
theorem dX7_ask_55 : decode cX7_ask 55 = .ok (.if_icmp .gt 46, 3) := by decide +kernel
theorem dX7_ask_58 : decode cX7_ask 58 = .ok (.aload_n 0, 1) := by decide +kernel
theorem dX7_ask_59 : decode cX7_ask 59 = .ok (.getfield 61, 3) := by decide +kernel
theorem dX7_ask_62 : decode cX7_ask 62 = .ok (.iload 7, 2) := by decide +kernel
theorem dX7_ask_64 : decode cX7_ask 64 = .ok (.iaload, 1) := by decide +kernel
theorem dX7_ask_65 : decode cX7_ask 65 = .ok (.iload 4, 2) := by decide +kernel
theorem dX7_ask_67 : decode cX7_ask 67 = .ok (.aload_n 0, 1) := by decide +kernel
theorem dX7_ask_68 : decode cX7_ask 68 = .ok (.getfield 61, 3) := by decide +kernel
theorem dX7_ask_71 : decode cX7_ask 71 = .ok (.iload 7, 2) := by decide +kernel
theorem dX7_ask_73 : decode cX7_ask 73 = .ok (.iaload, 1) := by decide +kernel
theorem dX7_ask_74 : decode cX7_ask 74 = .ok (.isub, 1) := by decide +kernel
theorem dX7_ask_75 : decode cX7_ask 75 = .ok (.invokestatic 186, 3) := by decide +kernel
theorem dX7_ask_78 : decode cX7_ask 78 = .ok (.istore 8, 2) := by decide +kernel
theorem dX7_ask_80 : decode cX7_ask 80 = .ok (.iload 8, 2) := by decide +kernel
theorem dX7_ask_82 : decode cX7_ask 82 = .ok (.iload 5, 2) := by decide +kernel
theorem dX7_ask_84 : decode cX7_ask 84 = .ok (.if_icmp .ge 11, 3) := by decide +kernel
theorem dX7_ask_87 : decode cX7_ask 87 = .ok (.iload 8, 2) := by decide +kernel
theorem dX7_ask_89 : decode cX7_ask 89 = .ok (.istore 5, 2) := by decide +kernel
theorem dX7_ask_91 : decode cX7_ask 91 = .ok (.iload 7, 2) := by decide +kernel
theorem dX7_ask_93 : decode cX7_ask 93 = .ok (.istore 6, 2) := by decide +kernel
theorem dX7_ask_95 : decode cX7_ask 95 = .ok (.iinc 7 1, 3) := by decide +kernel
theorem dX7_ask_98 : decode cX7_ask 98 = .ok (.goto (-47), 3) := by decide +kernel
theorem dX7_ask_101 : decode cX7_ask 101 = .ok (.iload 6, 2) := by decide +kernel
theorem dX7_ask_103 : decode cX7_ask 103 = .ok (.bipush (-4), 2) := by decide +kernel
theorem dX7_ask_105 : decode cX7_ask 105 = .ok (.if_icmp .ne 6, 3) := by decide +kernel
theorem dX7_ask_108 : decode cX7_ask 108 = .ok (.bipush (-4), 2) := by decide +kernel
theorem dX7_ask_110 : decode cX7_ask 110 = .ok (.ireturn, 1) := by decide +kernel
theorem dX7_ask_111 : decode cX7_ask 111 = .ok (.iload_n 2, 1) := by decide +kernel
theorem dX7_ask_112 : decode cX7_ask 112 = .ok (.ifCond .ne 8, 3) := by decide +kernel
theorem dX7_ask_115 : decode cX7_ask 115 = .ok (.iload 6, 2) := by decide +kernel
theorem dX7_ask_117 : decode cX7_ask 117 = .ok (.goto 5, 3) := by decide +kernel
theorem dX7_ask_120 : decode cX7_ask 120 = .ok (.iload 5, 2) := by decide +kernel
theorem dX7_ask_122 : decode cX7_ask 122 = .ok (.ireturn, 1) := by decide +kernel
set_option maxRecDepth 20000 in
theorem ggX7_drift_X7_within : GoodIn wsX7_drift wsX7_within := goodIn_r _ [9] (by decide +kernel) (by decide +kernel)
set_option maxRecDepth 20000 in
theorem gX7_drift_X7_within : GoodIn wsX7_drift (va_wsS RX7 65 yX7_within wsX7_within) := goodIn_app (goodIn_of _ (by decide +kernel)) ggX7_drift_X7_within
set_option maxRecDepth 20000 in
theorem ggX7_drift_X1_become : GoodIn wsX7_drift wsX1_become := goodIn_r _ [14, 15, 16, 17, 18, 19, 20, 21, 22, 23, 24, 25, 100, 101, 102, 103, 104, 105, 106] (by decide +kernel) (by decide +kernel)
set_option maxRecDepth 20000 in
theorem gX7_drift_X1_become : GoodIn wsX7_drift (wsV RX7 92 RX1 yX1_become wsX1_become) := goodIn_app (goodIn_of _ (by decide +kernel)) ggX7_drift_X1_become
set_option maxRecDepth 20000 in
theorem ggX7_drift_X1_lendTo : GoodIn wsX7_drift wsX1_lendTo := goodIn_r _ [29, 23, 30, 31, 32, 13, 33, 34, 35, 36, 37, 15, 7, 8, 9, 38, 39, 40, 41, 25, 42, 43, 44, 45, 100, 101, 102, 103, 104, 105, 106] (by decide +kernel) (by decide +kernel)
set_option maxRecDepth 20000 in
theorem gX7_drift_X1_lendTo : GoodIn wsX7_drift (wsV RX7 167 RX1 yX1_lendTo wsX1_lendTo) := goodIn_app (goodIn_of _ (by decide +kernel)) ggX7_drift_X1_lendTo
set_option maxRecDepth 20000 in
theorem ggX7_drift_X1_runDay : GoodIn wsX7_drift wsX1_runDay := goodIn_r _ [49, 15, 24, 50, 51, 52, 53, 16, 54, 55, 56, 13, 57, 23, 58, 59, 60, 61, 62, 63, 64, 65, 66, 67, 68, 18, 69, 70, 71, 72, 25, 38, 39, 40, 41, 73, 74, 75, 76, 42, 43, 44, 45, 100, 101, 102, 103, 104, 105, 106] (by decide +kernel) (by decide +kernel)
set_option maxRecDepth 20000 in
theorem gX7_drift_X1_runDay : GoodIn wsX7_drift (wsV RX7 248 RX1 yX1_runDay wsX1_runDay) := goodIn_app (goodIn_of _ (by decide +kernel)) ggX7_drift_X1_runDay
set_option maxRecDepth 20000 in
theorem ggX7_drift_X1_owedInAll : GoodIn wsX7_drift wsX1_owedInAll := goodIn_r _ [80, 15, 69, 70, 71, 13, 72, 25, 100, 101, 102, 103, 104, 105, 106] (by decide +kernel) (by decide +kernel)
set_option maxRecDepth 20000 in
theorem gX7_drift_X1_owedInAll : GoodIn wsX7_drift (wsV RX7 119 RX1 yX1_owedInAll wsX1_owedInAll) := goodIn_app (goodIn_of _ (by decide +kernel)) ggX7_drift_X1_owedInAll
set_option maxRecDepth 20000 in
theorem ggX7_drift_X1_riders : GoodIn wsX7_drift wsX1_riders := goodIn_r _ [84, 15, 85, 86, 87, 13, 88, 69, 70, 71, 72, 25, 100, 101, 102, 103, 104, 105, 106] (by decide +kernel) (by decide +kernel)
set_option maxRecDepth 20000 in
theorem gX7_drift_X1_riders : GoodIn wsX7_drift (wsV RX7 115 RX1 yX1_riders wsX1_riders) := goodIn_app (goodIn_of _ (by decide +kernel)) ggX7_drift_X1_riders
theorem dX7_drift_0 : decode cX7_drift 0 = .ok (.iload_n 2, 1) := by decide +kernel
theorem dX7_drift_1 : decode cX7_drift 1 = .ok (.iconst 1, 1) := by decide +kernel
theorem dX7_drift_2 : decode cX7_drift 2 = .ok (.bipush 60, 2) := by decide +kernel
theorem dX7_drift_4 : decode cX7_drift 4 = .ok (.invokestatic 65, 3) := by decide +kernel
theorem dX7_drift_7 : decode cX7_drift 7 = .ok (.ifCond .eq 12, 3) := by decide +kernel
theorem dX7_drift_10 : decode cX7_drift 10 = .ok (.iload_n 3, 1) := by decide +kernel
theorem dX7_drift_11 : decode cX7_drift 11 = .ok (.iconst 0, 1) := by decide +kernel
theorem dX7_drift_12 : decode cX7_drift 12 = .ok (.iconst 1, 1) := by decide +kernel
theorem dX7_drift_13 : decode cX7_drift 13 = .ok (.invokestatic 65, 3) := by decide +kernel
theorem dX7_drift_16 : decode cX7_drift 16 = .ok (.ifCond .ne 5, 3) := by decide +kernel
theorem dX7_drift_19 : decode cX7_drift 19 = .ok (.iconst (-1), 1) := by decide +kernel
theorem dX7_drift_20 : decode cX7_drift 20 = .ok (.ireturn, 1) := by decide +kernel
theorem dX7_drift_21 : decode cX7_drift 21 = .ok (.aload_n 0, 1) := by decide +kernel
theorem dX7_drift_22 : decode cX7_drift 22 = .ok (.getfield 10, 3) := by decide +kernel
theorem dX7_drift_25 : decode cX7_drift 25 = .ok (.getfield 106, 3) := by decide +kernel
theorem dX7_drift_28 : decode cX7_drift 28 = .ok (.istore 4, 2) := by decide +kernel
theorem dX7_drift_30 : decode cX7_drift 30 = .ok (.iload 4, 2) := by decide +kernel
theorem dX7_drift_32 : decode cX7_drift 32 = .ok (.ifCond .ne 6, 3) := by decide +kernel
theorem dX7_drift_35 : decode cX7_drift 35 = .ok (.bipush (-2), 2) := by decide +kernel
theorem dX7_drift_37 : decode cX7_drift 37 = .ok (.ireturn, 1) := by decide +kernel
theorem dX7_drift_38 : decode cX7_drift 38 = .ok (.aload_n 0, 1) := by decide +kernel
theorem dX7_drift_39 : decode cX7_drift 39 = .ok (.getfield 16, 3) := by decide +kernel
theorem dX7_drift_42 : decode cX7_drift 42 = .ok (.aload_n 0, 1) := by decide +kernel
theorem dX7_drift_43 : decode cX7_drift 43 = .ok (.getfield 10, 3) := by decide +kernel
theorem dX7_drift_46 : decode cX7_drift 46 = .ok (.invokevirtual 92, 3) := by decide +kernel
theorem dX7_drift_49 : decode cX7_drift 49 = .ok (.iload_n 1, 1) := by decide +kernel
theorem dX7_drift_50 : decode cX7_drift 50 = .ok (.istore 5, 2) := by decide +kernel
theorem dX7_drift_52 : decode cX7_drift 52 = .ok (.iconst 0, 1) := by decide +kernel
theorem dX7_drift_53 : decode cX7_drift 53 = .ok (.istore 6, 2) := by decide +kernel
theorem dX7_drift_55 : decode cX7_drift 55 = .ok (.iload 6, 2) := by decide +kernel
theorem dX7_drift_57 : decode cX7_drift 57 = .ok (.iload_n 2, 1) := by decide +kernel
theorem dX7_drift_58 : decode cX7_drift 58 = .ok (.if_icmp .ge 77, 3) := by decide +kernel
theorem dX7_drift_61 : decode cX7_drift 61 = .ok (.iload 5, 2) := by decide +kernel
theorem dX7_drift_63 : decode cX7_drift 63 = .ok (.ldc 247, 2) := by decide +kernel
theorem dX7_drift_65 : decode cX7_drift 65 = .ok (.imul, 1) := by decide +kernel
theorem dX7_drift_66 : decode cX7_drift 66 = .ok (.sipush 12345, 3) := by decide +kernel
theorem dX7_drift_69 : decode cX7_drift 69 = .ok (.iadd, 1) := by decide +kernel
theorem dX7_drift_70 : decode cX7_drift 70 = .ok (.istore 5, 2) := by decide +kernel
theorem dX7_drift_72 : decode cX7_drift 72 = .ok (.iload 5, 2) := by decide +kernel
theorem dX7_drift_74 : decode cX7_drift 74 = .ok (.bipush 16, 2) := by decide +kernel
theorem dX7_drift_76 : decode cX7_drift 76 = .ok (.iushr, 1) := by decide +kernel
theorem dX7_drift_77 : decode cX7_drift 77 = .ok (.sipush 32767, 3) := by decide +kernel
theorem dX7_drift_80 : decode cX7_drift 80 = .ok (.iand, 1) := by decide +kernel
theorem dX7_drift_81 : decode cX7_drift 81 = .ok (.istore 7, 2) := by decide +kernel
theorem dX7_drift_83 : decode cX7_drift 83 = .ok (.aload_n 0, 1) := by decide +kernel
theorem dX7_drift_84 : decode cX7_drift 84 = .ok (.getfield 16, 3) := by decide +kernel
theorem dX7_drift_87 : decode cX7_drift 87 = .ok (.iload 7, 2) := by decide +kernel
theorem dX7_drift_89 : decode cX7_drift 89 = .ok (.iload 4, 2) := by decide +kernel
theorem dX7_drift_91 : decode cX7_drift 91 = .ok (.irem, 1) := by decide +kernel
theorem dX7_drift_92 : decode cX7_drift 92 = .ok (.iload 7, 2) := by decide +kernel
theorem dX7_drift_94 : decode cX7_drift 94 = .ok (.bipush 8, 2) := by decide +kernel
theorem dX7_drift_96 : decode cX7_drift 96 = .ok (.idiv, 1) := by decide +kernel
theorem dX7_drift_97 : decode cX7_drift 97 = .ok (.iload 4, 2) := by decide +kernel
theorem dX7_drift_99 : decode cX7_drift 99 = .ok (.irem, 1) := by decide +kernel
theorem dX7_drift_100 : decode cX7_drift 100 = .ok (.iconst 1, 1) := by decide +kernel
theorem dX7_drift_101 : decode cX7_drift 101 = .ok (.iload 7, 2) := by decide +kernel
theorem dX7_drift_103 : decode cX7_drift 103 = .ok (.bipush 64, 2) := by decide +kernel
theorem dX7_drift_105 : decode cX7_drift 105 = .ok (.idiv, 1) := by decide +kernel
theorem dX7_drift_106 : decode cX7_drift 106 = .ok (.bipush 9, 2) := by decide +kernel
theorem dX7_drift_108 : decode cX7_drift 108 = .ok (.irem, 1) := by decide +kernel
theorem dX7_drift_109 : decode cX7_drift 109 = .ok (.iadd, 1) := by decide +kernel
theorem dX7_drift_110 : decode cX7_drift 110 = .ok (.invokevirtual 167, 3) := by decide +kernel
theorem dX7_drift_113 : decode cX7_drift 113 = .ok (.pop, 1) := by decide +kernel
theorem dX7_drift_114 : decode cX7_drift 114 = .ok (.aload_n 0, 1) := by decide +kernel
theorem dX7_drift_115 : decode cX7_drift 115 = .ok (.getfield 16, 3) := by decide +kernel
theorem dX7_drift_118 : decode cX7_drift 118 = .ok (.aload_n 0, 1) := by decide +kernel
theorem dX7_drift_119 : decode cX7_drift 119 = .ok (.getfield 16, 3) := by decide +kernel
theorem dX7_drift_122 : decode cX7_drift 122 = .ok (.getfield 112, 3) := by decide +kernel
theorem dX7_drift_125 : decode cX7_drift 125 = .ok (.invokevirtual 248, 3) := by decide +kernel
theorem dX7_drift_128 : decode cX7_drift 128 = .ok (.pop, 1) := by decide +kernel
theorem dX7_drift_129 : decode cX7_drift 129 = .ok (.iinc 6 1, 3) := by decide +kernel
theorem dX7_drift_132 : decode cX7_drift 132 = .ok (.goto (-77), 3) := by decide +kernel
theorem dX7_drift_135 : decode cX7_drift 135 = .ok (.iload_n 3, 1) := by decide +kernel
theorem dX7_drift_136 : decode cX7_drift 136 = .ok (.ifCond .ne 13, 3) := by decide +kernel
theorem dX7_drift_139 : decode cX7_drift 139 = .ok (.aload_n 0, 1) := by decide +kernel
theorem dX7_drift_140 : decode cX7_drift 140 = .ok (.getfield 16, 3) := by decide +kernel
theorem dX7_drift_143 : decode cX7_drift 143 = .ok (.invokevirtual 119, 3) := by decide +kernel
theorem dX7_drift_146 : decode cX7_drift 146 = .ok (.goto 10, 3) := by decide +kernel
theorem dX7_drift_149 : decode cX7_drift 149 = .ok (.aload_n 0, 1) := by decide +kernel
theorem dX7_drift_150 : decode cX7_drift 150 = .ok (.getfield 16, 3) := by decide +kernel
theorem dX7_drift_153 : decode cX7_drift 153 = .ok (.invokevirtual 115, 3) := by decide +kernel
theorem dX7_drift_156 : decode cX7_drift 156 = .ok (.ireturn, 1) := by decide +kernel
set_option maxRecDepth 20000 in
theorem ggX7_keep_X7_within : GoodIn wsX7_keep wsX7_within := goodIn_r _ [10] (by decide +kernel) (by decide +kernel)
set_option maxRecDepth 20000 in
theorem gX7_keep_X7_within : GoodIn wsX7_keep (va_wsS RX7 65 yX7_within wsX7_within) := goodIn_app (goodIn_of _ (by decide +kernel)) ggX7_keep_X7_within
set_option maxRecDepth 20000 in
theorem ggX7_keep_X1_become : GoodIn wsX7_keep wsX1_become := goodIn_r _ [15, 16, 17, 18, 19, 20, 21, 22, 23, 24, 25, 26, 51, 52, 53, 54, 55, 56, 57] (by decide +kernel) (by decide +kernel)
set_option maxRecDepth 20000 in
theorem gX7_keep_X1_become : GoodIn wsX7_keep (wsV RX7 92 RX1 yX1_become wsX1_become) := goodIn_app (goodIn_of _ (by decide +kernel)) ggX7_keep_X1_become
set_option maxRecDepth 20000 in
theorem ggX7_keep_X5_become : GoodIn wsX7_keep wsX5_become := goodIn_r _ [31, 32, 33, 34, 21, 22, 23, 35, 36, 58, 59, 60, 61] (by decide +kernel) (by decide +kernel)
set_option maxRecDepth 20000 in
theorem gX7_keep_X5_become : GoodIn wsX7_keep (wsV RX7 257 RX5 yX5_become wsX5_become) := goodIn_app (goodIn_of _ (by decide +kernel)) ggX7_keep_X5_become
theorem dX7_keep_0 : decode cX7_keep 0 = .ok (.iload_n 1, 1) := by decide +kernel
theorem dX7_keep_1 : decode cX7_keep 1 = .ok (.iconst 0, 1) := by decide +kernel
theorem dX7_keep_2 : decode cX7_keep 2 = .ok (.iconst 1, 1) := by decide +kernel
theorem dX7_keep_3 : decode cX7_keep 3 = .ok (.invokestatic 65, 3) := by decide +kernel
theorem dX7_keep_6 : decode cX7_keep 6 = .ok (.ifCond .ne 5, 3) := by decide +kernel
theorem dX7_keep_9 : decode cX7_keep 9 = .ok (.iconst (-1), 1) := by decide +kernel
theorem dX7_keep_10 : decode cX7_keep 10 = .ok (.ireturn, 1) := by decide +kernel
theorem dX7_keep_11 : decode cX7_keep 11 = .ok (.aload_n 0, 1) := by decide +kernel
theorem dX7_keep_12 : decode cX7_keep 12 = .ok (.getfield 42, 3) := by decide +kernel
theorem dX7_keep_15 : decode cX7_keep 15 = .ok (.iload_n 1, 1) := by decide +kernel
theorem dX7_keep_16 : decode cX7_keep 16 = .ok (.aaload, 1) := by decide +kernel
theorem dX7_keep_17 : decode cX7_keep 17 = .ok (.astore_n 2, 1) := by decide +kernel
theorem dX7_keep_18 : decode cX7_keep 18 = .ok (.aload_n 2, 1) := by decide +kernel
theorem dX7_keep_19 : decode cX7_keep 19 = .ok (.getfield 99, 3) := by decide +kernel
theorem dX7_keep_22 : decode cX7_keep 22 = .ok (.ifCond .eq 7, 3) := by decide +kernel
theorem dX7_keep_25 : decode cX7_keep 25 = .ok (.iconst 1, 1) := by decide +kernel
theorem dX7_keep_26 : decode cX7_keep 26 = .ok (.goto 4, 3) := by decide +kernel
theorem dX7_keep_29 : decode cX7_keep 29 = .ok (.iconst 0, 1) := by decide +kernel
theorem dX7_keep_30 : decode cX7_keep 30 = .ok (.istore_n 3, 1) := by decide +kernel
theorem dX7_keep_31 : decode cX7_keep 31 = .ok (.aload_n 2, 1) := by decide +kernel
theorem dX7_keep_32 : decode cX7_keep 32 = .ok (.iconst 1, 1) := by decide +kernel
theorem dX7_keep_33 : decode cX7_keep 33 = .ok (.putfield 99, 3) := by decide +kernel
theorem dX7_keep_36 : decode cX7_keep 36 = .ok (.aload_n 2, 1) := by decide +kernel
theorem dX7_keep_37 : decode cX7_keep 37 = .ok (.getfield 251, 3) := by decide +kernel
theorem dX7_keep_40 : decode cX7_keep 40 = .ok (.aload_n 0, 1) := by decide +kernel
theorem dX7_keep_41 : decode cX7_keep 41 = .ok (.getfield 10, 3) := by decide +kernel
theorem dX7_keep_44 : decode cX7_keep 44 = .ok (.invokevirtual 92, 3) := by decide +kernel
theorem dX7_keep_47 : decode cX7_keep 47 = .ok (.aload_n 2, 1) := by decide +kernel
theorem dX7_keep_48 : decode cX7_keep 48 = .ok (.getfield 254, 3) := by decide +kernel
theorem dX7_keep_51 : decode cX7_keep 51 = .ok (.aload_n 0, 1) := by decide +kernel
theorem dX7_keep_52 : decode cX7_keep 52 = .ok (.getfield 36, 3) := by decide +kernel
theorem dX7_keep_55 : decode cX7_keep 55 = .ok (.invokevirtual 257, 3) := by decide +kernel
theorem dX7_keep_58 : decode cX7_keep 58 = .ok (.iload_n 3, 1) := by decide +kernel
theorem dX7_keep_59 : decode cX7_keep 59 = .ok (.ireturn, 1) := by decide +kernel
set_option maxRecDepth 20000 in
theorem ggX7_back_X7_within : GoodIn wsX7_back wsX7_within := goodIn_r _ [11] (by decide +kernel) (by decide +kernel)
set_option maxRecDepth 20000 in
theorem gX7_back_X7_within : GoodIn wsX7_back (va_wsS RX7 65 yX7_within wsX7_within) := goodIn_app (goodIn_of _ (by decide +kernel)) ggX7_back_X7_within
set_option maxRecDepth 20000 in
theorem ggX7_back_X1_become : GoodIn wsX7_back wsX1_become := goodIn_r _ [16, 17, 18, 19, 20, 21, 22, 23, 24, 25, 26, 27, 52, 53, 54, 55, 56, 57, 58] (by decide +kernel) (by decide +kernel)
set_option maxRecDepth 20000 in
theorem gX7_back_X1_become : GoodIn wsX7_back (wsV RX7 92 RX1 yX1_become wsX1_become) := goodIn_app (goodIn_of _ (by decide +kernel)) ggX7_back_X1_become
set_option maxRecDepth 20000 in
theorem ggX7_back_X5_become : GoodIn wsX7_back wsX5_become := goodIn_r _ [32, 33, 34, 35, 22, 23, 24, 36, 37, 59, 60, 61, 62] (by decide +kernel) (by decide +kernel)
set_option maxRecDepth 20000 in
theorem gX7_back_X5_become : GoodIn wsX7_back (wsV RX7 257 RX5 yX5_become wsX5_become) := goodIn_app (goodIn_of _ (by decide +kernel)) ggX7_back_X5_become
theorem dX7_back_0 : decode cX7_back 0 = .ok (.iload_n 1, 1) := by decide +kernel
theorem dX7_back_1 : decode cX7_back 1 = .ok (.iconst 0, 1) := by decide +kernel
theorem dX7_back_2 : decode cX7_back 2 = .ok (.iconst 1, 1) := by decide +kernel
theorem dX7_back_3 : decode cX7_back 3 = .ok (.invokestatic 65, 3) := by decide +kernel
theorem dX7_back_6 : decode cX7_back 6 = .ok (.ifCond .ne 5, 3) := by decide +kernel
theorem dX7_back_9 : decode cX7_back 9 = .ok (.iconst (-1), 1) := by decide +kernel
theorem dX7_back_10 : decode cX7_back 10 = .ok (.ireturn, 1) := by decide +kernel
theorem dX7_back_11 : decode cX7_back 11 = .ok (.aload_n 0, 1) := by decide +kernel
theorem dX7_back_12 : decode cX7_back 12 = .ok (.getfield 42, 3) := by decide +kernel
theorem dX7_back_15 : decode cX7_back 15 = .ok (.iload_n 1, 1) := by decide +kernel
theorem dX7_back_16 : decode cX7_back 16 = .ok (.aaload, 1) := by decide +kernel
theorem dX7_back_17 : decode cX7_back 17 = .ok (.astore_n 2, 1) := by decide +kernel
theorem dX7_back_18 : decode cX7_back 18 = .ok (.aload_n 2, 1) := by decide +kernel
theorem dX7_back_19 : decode cX7_back 19 = .ok (.getfield 99, 3) := by decide +kernel
theorem dX7_back_22 : decode cX7_back 22 = .ok (.ifCond .ne 6, 3) := by decide +kernel
theorem dX7_back_25 : decode cX7_back 25 = .ok (.bipush (-2), 2) := by decide +kernel
theorem dX7_back_27 : decode cX7_back 27 = .ok (.ireturn, 1) := by decide +kernel
theorem dX7_back_28 : decode cX7_back 28 = .ok (.aload_n 0, 1) := by decide +kernel
theorem dX7_back_29 : decode cX7_back 29 = .ok (.getfield 10, 3) := by decide +kernel
theorem dX7_back_32 : decode cX7_back 32 = .ok (.aload_n 2, 1) := by decide +kernel
theorem dX7_back_33 : decode cX7_back 33 = .ok (.getfield 251, 3) := by decide +kernel
theorem dX7_back_36 : decode cX7_back 36 = .ok (.invokevirtual 92, 3) := by decide +kernel
theorem dX7_back_39 : decode cX7_back 39 = .ok (.aload_n 0, 1) := by decide +kernel
theorem dX7_back_40 : decode cX7_back 40 = .ok (.getfield 36, 3) := by decide +kernel
theorem dX7_back_43 : decode cX7_back 43 = .ok (.aload_n 2, 1) := by decide +kernel
theorem dX7_back_44 : decode cX7_back 44 = .ok (.getfield 254, 3) := by decide +kernel
theorem dX7_back_47 : decode cX7_back 47 = .ok (.invokevirtual 257, 3) := by decide +kernel
theorem dX7_back_50 : decode cX7_back 50 = .ok (.aload_n 0, 1) := by decide +kernel
theorem dX7_back_51 : decode cX7_back 51 = .ok (.getfield 10, 3) := by decide +kernel
theorem dX7_back_54 : decode cX7_back 54 = .ok (.getfield 109, 3) := by decide +kernel
theorem dX7_back_57 : decode cX7_back 57 = .ok (.ireturn, 1) := by decide +kernel
set_option maxRecDepth 20000 in
theorem ggX7_sheet_X7_isSheet : GoodIn wsX7_sheet wsX7_isSheet := goodIn_r _ [5, 6, 7, 4, 8] (by decide +kernel) (by decide +kernel)
set_option maxRecDepth 20000 in
theorem gX7_sheet_X7_isSheet : GoodIn wsX7_sheet (va_wsS RX7 260 yX7_isSheet wsX7_isSheet) := goodIn_app (goodIn_of _ (by decide +kernel)) ggX7_sheet_X7_isSheet
set_option maxRecDepth 20000 in
theorem ggX7_sheet_X7_within : GoodIn wsX7_sheet wsX7_within := goodIn_r _ [8] (by decide +kernel) (by decide +kernel)
set_option maxRecDepth 20000 in
theorem gX7_sheet_X7_within : GoodIn wsX7_sheet (va_wsS RX7 65 yX7_within wsX7_within) := goodIn_app (goodIn_of _ (by decide +kernel)) ggX7_sheet_X7_within
set_option maxRecDepth 20000 in
theorem ggX7_sheet_X6_renew : GoodIn wsX7_sheet wsX6_renew := goodIn_r _ [13, 14, 15, 16, 17, 18, 19, 20, 21, 33, 34, 35, 36] (by decide +kernel) (by decide +kernel)
set_option maxRecDepth 20000 in
theorem gX7_sheet_X6_renew : GoodIn wsX7_sheet (wsV RX7 263 RX6 yX6_renew wsX6_renew) := goodIn_app (goodIn_of _ (by decide +kernel)) ggX7_sheet_X6_renew
theorem dX7_sheet_0 : decode cX7_sheet 0 = .ok (.iload_n 1, 1) := by decide +kernel
theorem dX7_sheet_1 : decode cX7_sheet 1 = .ok (.invokestatic 260, 3) := by decide +kernel
theorem dX7_sheet_4 : decode cX7_sheet 4 = .ok (.ifCond .eq 18, 3) := by decide +kernel
theorem dX7_sheet_7 : decode cX7_sheet 7 = .ok (.iload_n 2, 1) := by decide +kernel
theorem dX7_sheet_8 : decode cX7_sheet 8 = .ok (.iconst 0, 1) := by decide +kernel
theorem dX7_sheet_9 : decode cX7_sheet 9 = .ok (.iconst 2, 1) := by decide +kernel
theorem dX7_sheet_10 : decode cX7_sheet 10 = .ok (.invokestatic 65, 3) := by decide +kernel
theorem dX7_sheet_13 : decode cX7_sheet 13 = .ok (.ifCond .eq 9, 3) := by decide +kernel
theorem dX7_sheet_16 : decode cX7_sheet 16 = .ok (.iload_n 3, 1) := by decide +kernel
theorem dX7_sheet_17 : decode cX7_sheet 17 = .ok (.bipush 40, 2) := by decide +kernel
theorem dX7_sheet_19 : decode cX7_sheet 19 = .ok (.if_icmp .le 5, 3) := by decide +kernel
theorem dX7_sheet_22 : decode cX7_sheet 22 = .ok (.iconst (-1), 1) := by decide +kernel
theorem dX7_sheet_23 : decode cX7_sheet 23 = .ok (.ireturn, 1) := by decide +kernel
theorem dX7_sheet_24 : decode cX7_sheet 24 = .ok (.iload_n 3, 1) := by decide +kernel
theorem dX7_sheet_25 : decode cX7_sheet 25 = .ok (.ifCond .ge 6, 3) := by decide +kernel
theorem dX7_sheet_28 : decode cX7_sheet 28 = .ok (.bipush (-14), 2) := by decide +kernel
theorem dX7_sheet_30 : decode cX7_sheet 30 = .ok (.ireturn, 1) := by decide +kernel
theorem dX7_sheet_31 : decode cX7_sheet 31 = .ok (.aload_n 0, 1) := by decide +kernel
theorem dX7_sheet_32 : decode cX7_sheet 32 = .ok (.getfield 49, 3) := by decide +kernel
theorem dX7_sheet_35 : decode cX7_sheet 35 = .ok (.iload_n 1, 1) := by decide +kernel
theorem dX7_sheet_36 : decode cX7_sheet 36 = .ok (.aaload, 1) := by decide +kernel
theorem dX7_sheet_37 : decode cX7_sheet 37 = .ok (.iload_n 2, 1) := by decide +kernel
theorem dX7_sheet_38 : decode cX7_sheet 38 = .ok (.iload_n 3, 1) := by decide +kernel
theorem dX7_sheet_39 : decode cX7_sheet 39 = .ok (.invokevirtual 263, 3) := by decide +kernel
theorem dX7_sheet_42 : decode cX7_sheet 42 = .ok (.iconst 1, 1) := by decide +kernel
theorem dX7_sheet_43 : decode cX7_sheet 43 = .ok (.ireturn, 1) := by decide +kernel
set_option maxRecDepth 20000 in
theorem ggX7_lay_X7_isSheet : GoodIn wsX7_lay wsX7_isSheet := goodIn_r _ [5, 6, 7, 4, 8] (by decide +kernel) (by decide +kernel)
set_option maxRecDepth 20000 in
theorem gX7_lay_X7_isSheet : GoodIn wsX7_lay (va_wsS RX7 260 yX7_isSheet wsX7_isSheet) := goodIn_app (goodIn_of _ (by decide +kernel)) ggX7_lay_X7_isSheet
set_option maxRecDepth 20000 in
theorem ggX7_lay_X6_faultOfLaying : GoodIn wsX7_lay wsX6_faultOfLaying := goodIn_r _ [13, 14, 15, 33, 34, 35, 36] (by decide +kernel) (by decide +kernel)
set_option maxRecDepth 20000 in
theorem gX7_lay_X6_faultOfLaying : GoodIn wsX7_lay (wsV RX7 266 RX6 yX6_faultOfLaying wsX6_faultOfLaying) := goodIn_app (goodIn_of _ (by decide +kernel)) ggX7_lay_X6_faultOfLaying
set_option maxRecDepth 20000 in
theorem ggX7_lay_X6_put : GoodIn wsX7_lay wsX6_put := goodIn_r _ [19, 20, 21, 33, 34, 35, 36] (by decide +kernel) (by decide +kernel)
set_option maxRecDepth 20000 in
theorem gX7_lay_X6_put : GoodIn wsX7_lay (wsV RX7 269 RX6 yX6_put wsX6_put) := goodIn_app (goodIn_of _ (by decide +kernel)) ggX7_lay_X6_put
theorem dX7_lay_0 : decode cX7_lay 0 = .ok (.iload_n 1, 1) := by decide +kernel
theorem dX7_lay_1 : decode cX7_lay 1 = .ok (.invokestatic 260, 3) := by decide +kernel
theorem dX7_lay_4 : decode cX7_lay 4 = .ok (.ifCond .ne 5, 3) := by decide +kernel
theorem dX7_lay_7 : decode cX7_lay 7 = .ok (.iconst (-1), 1) := by decide +kernel
theorem dX7_lay_8 : decode cX7_lay 8 = .ok (.ireturn, 1) := by decide +kernel
theorem dX7_lay_9 : decode cX7_lay 9 = .ok (.aload_n 0, 1) := by decide +kernel
theorem dX7_lay_10 : decode cX7_lay 10 = .ok (.getfield 49, 3) := by decide +kernel
theorem dX7_lay_13 : decode cX7_lay 13 = .ok (.iload_n 1, 1) := by decide +kernel
theorem dX7_lay_14 : decode cX7_lay 14 = .ok (.aaload, 1) := by decide +kernel
theorem dX7_lay_15 : decode cX7_lay 15 = .ok (.iload_n 2, 1) := by decide +kernel
theorem dX7_lay_16 : decode cX7_lay 16 = .ok (.invokevirtual 266, 3) := by decide +kernel
theorem dX7_lay_19 : decode cX7_lay 19 = .ok (.istore 4, 2) := by decide +kernel
theorem dX7_lay_21 : decode cX7_lay 21 = .ok (.iload 4, 2) := by decide +kernel
theorem dX7_lay_23 : decode cX7_lay 23 = .ok (.ifCond .eq 9, 3) := by decide +kernel
theorem dX7_lay_26 : decode cX7_lay 26 = .ok (.bipush (-10), 2) := by decide +kernel
theorem dX7_lay_28 : decode cX7_lay 28 = .ok (.iload 4, 2) := by decide +kernel
theorem dX7_lay_30 : decode cX7_lay 30 = .ok (.isub, 1) := by decide +kernel
theorem dX7_lay_31 : decode cX7_lay 31 = .ok (.ireturn, 1) := by decide +kernel
theorem dX7_lay_32 : decode cX7_lay 32 = .ok (.aload_n 0, 1) := by decide +kernel
theorem dX7_lay_33 : decode cX7_lay 33 = .ok (.getfield 49, 3) := by decide +kernel
theorem dX7_lay_36 : decode cX7_lay 36 = .ok (.iload_n 1, 1) := by decide +kernel
theorem dX7_lay_37 : decode cX7_lay 37 = .ok (.aaload, 1) := by decide +kernel
theorem dX7_lay_38 : decode cX7_lay 38 = .ok (.iload_n 2, 1) := by decide +kernel
theorem dX7_lay_39 : decode cX7_lay 39 = .ok (.iload_n 3, 1) := by decide +kernel
theorem dX7_lay_40 : decode cX7_lay 40 = .ok (.invokevirtual 269, 3) := by decide +kernel
theorem dX7_lay_43 : decode cX7_lay 43 = .ok (.iconst 1, 1) := by decide +kernel
theorem dX7_lay_44 : decode cX7_lay 44 = .ok (.ireturn, 1) := by decide +kernel
set_option maxRecDepth 20000 in
theorem ggX7_read_X7_isSheet : GoodIn wsX7_read wsX7_isSheet := goodIn_r _ [9, 10, 11, 8, 12] (by decide +kernel) (by decide +kernel)
set_option maxRecDepth 20000 in
theorem gX7_read_X7_isSheet : GoodIn wsX7_read (va_wsS RX7 260 yX7_isSheet wsX7_isSheet) := goodIn_app (goodIn_of _ (by decide +kernel)) ggX7_read_X7_isSheet
set_option maxRecDepth 20000 in
theorem ggX7_read_X7_within : GoodIn wsX7_read wsX7_within := goodIn_r _ [12] (by decide +kernel) (by decide +kernel)
set_option maxRecDepth 20000 in
theorem gX7_read_X7_within : GoodIn wsX7_read (va_wsS RX7 65 yX7_within wsX7_within) := goodIn_app (goodIn_of _ (by decide +kernel)) ggX7_read_X7_within
set_option maxRecDepth 20000 in
theorem ggX7_read_X1_become : GoodIn wsX7_read wsX1_become := goodIn_r _ [17, 18, 19, 20, 21, 22, 23, 24, 25, 26, 27, 28, 80, 81, 82, 83, 84, 85, 86] (by decide +kernel) (by decide +kernel)
set_option maxRecDepth 20000 in
theorem gX7_read_X1_become : GoodIn wsX7_read (wsV RX7 92 RX1 yX1_become wsX1_become) := goodIn_app (goodIn_of _ (by decide +kernel)) ggX7_read_X1_become
set_option maxRecDepth 20000 in
theorem ggX7_read_X6_faultOfReading : GoodIn wsX7_read wsX6_faultOfReading := goodIn_r _ [33, 34, 35, 36, 76, 77, 78, 79] (by decide +kernel) (by decide +kernel)
set_option maxRecDepth 20000 in
theorem gX7_read_X6_faultOfReading : GoodIn wsX7_read (wsV RX7 272 RX6 yX6_faultOfReading wsX6_faultOfReading) := goodIn_app (goodIn_of _ (by decide +kernel)) ggX7_read_X6_faultOfReading
set_option maxRecDepth 20000 in
theorem ggX7_read_X1_payTo : GoodIn wsX7_read wsX1_payTo := goodIn_r _ [40, 26, 41, 42, 43, 16, 44, 45, 46, 47, 48, 18, 11, 8, 12, 49, 50, 51, 52, 28, 53, 54, 55, 56, 57, 58, 59, 60, 61, 62, 63, 64, 80, 81, 82, 83, 84, 85, 86] (by decide +kernel) (by decide +kernel)
set_option maxRecDepth 20000 in
theorem gX7_read_X1_payTo : GoodIn wsX7_read (wsV RX7 171 RX1 yX1_payTo wsX1_payTo) := goodIn_app (goodIn_of _ (by decide +kernel)) ggX7_read_X1_payTo
theorem dX7_read_0 : decode cX7_read 0 = .ok (.iload_n 1, 1) := by decide +kernel
theorem dX7_read_1 : decode cX7_read 1 = .ok (.invokestatic 260, 3) := by decide +kernel
theorem dX7_read_4 : decode cX7_read 4 = .ok (.ifCond .eq 23, 3) := by decide +kernel
theorem dX7_read_7 : decode cX7_read 7 = .ok (.iload_n 2, 1) := by decide +kernel
theorem dX7_read_8 : decode cX7_read 8 = .ok (.iconst 0, 1) := by decide +kernel
theorem dX7_read_9 : decode cX7_read 9 = .ok (.iconst 2, 1) := by decide +kernel
theorem dX7_read_10 : decode cX7_read 10 = .ok (.invokestatic 65, 3) := by decide +kernel
theorem dX7_read_13 : decode cX7_read 13 = .ok (.ifCond .eq 14, 3) := by decide +kernel
theorem dX7_read_16 : decode cX7_read 16 = .ok (.iload 4, 2) := by decide +kernel
theorem dX7_read_18 : decode cX7_read 18 = .ok (.iconst 0, 1) := by decide +kernel
theorem dX7_read_19 : decode cX7_read 19 = .ok (.bipush 13, 2) := by decide +kernel
theorem dX7_read_21 : decode cX7_read 21 = .ok (.invokestatic 65, 3) := by decide +kernel
theorem dX7_read_24 : decode cX7_read 24 = .ok (.ifCond .ne 5, 3) := by decide +kernel
theorem dX7_read_27 : decode cX7_read 27 = .ok (.iconst (-1), 1) := by decide +kernel
theorem dX7_read_28 : decode cX7_read 28 = .ok (.ireturn, 1) := by decide +kernel
theorem dX7_read_29 : decode cX7_read 29 = .ok (.aload_n 0, 1) := by decide +kernel
theorem dX7_read_30 : decode cX7_read 30 = .ok (.getfield 49, 3) := by decide +kernel
theorem dX7_read_33 : decode cX7_read 33 = .ok (.iload_n 1, 1) := by decide +kernel
theorem dX7_read_34 : decode cX7_read 34 = .ok (.aaload, 1) := by decide +kernel
theorem dX7_read_35 : decode cX7_read 35 = .ok (.astore 5, 2) := by decide +kernel
theorem dX7_read_37 : decode cX7_read 37 = .ok (.aload_n 0, 1) := by decide +kernel
theorem dX7_read_38 : decode cX7_read 38 = .ok (.getfield 16, 3) := by decide +kernel
theorem dX7_read_41 : decode cX7_read 41 = .ok (.aload_n 0, 1) := by decide +kernel
theorem dX7_read_42 : decode cX7_read 42 = .ok (.getfield 10, 3) := by decide +kernel
theorem dX7_read_45 : decode cX7_read 45 = .ok (.invokevirtual 92, 3) := by decide +kernel
theorem dX7_read_48 : decode cX7_read 48 = .ok (.iconst 0, 1) := by decide +kernel
theorem dX7_read_49 : decode cX7_read 49 = .ok (.istore 6, 2) := by decide +kernel
theorem dX7_read_51 : decode cX7_read 51 = .ok (.iconst 0, 1) := by decide +kernel
theorem dX7_read_52 : decode cX7_read 52 = .ok (.istore 7, 2) := by decide +kernel
theorem dX7_read_54 : decode cX7_read 54 = .ok (.iconst 0, 1) := by decide +kernel
theorem dX7_read_55 : decode cX7_read 55 = .ok (.istore 8, 2) := by decide +kernel
theorem dX7_read_57 : decode cX7_read 57 = .ok (.iload 8, 2) := by decide +kernel
theorem dX7_read_59 : decode cX7_read 59 = .ok (.iload 4, 2) := by decide +kernel
theorem dX7_read_61 : decode cX7_read 61 = .ok (.if_icmp .ge 84, 3) := by decide +kernel
theorem dX7_read_64 : decode cX7_read 64 = .ok (.iload 6, 2) := by decide +kernel
theorem dX7_read_66 : decode cX7_read 66 = .ok (.ifCond .ne 79, 3) := by decide +kernel
theorem dX7_read_69 : decode cX7_read 69 = .ok (.iload_n 3, 1) := by decide +kernel
theorem dX7_read_70 : decode cX7_read 70 = .ok (.iconst 3, 1) := by decide +kernel
theorem dX7_read_71 : decode cX7_read 71 = .ok (.iload 8, 2) := by decide +kernel
theorem dX7_read_73 : decode cX7_read 73 = .ok (.imul, 1) := by decide +kernel
theorem dX7_read_74 : decode cX7_read 74 = .ok (.iadd, 1) := by decide +kernel
theorem dX7_read_75 : decode cX7_read 75 = .ok (.istore 9, 2) := by decide +kernel
theorem dX7_read_77 : decode cX7_read 77 = .ok (.aload 5, 2) := by decide +kernel
theorem dX7_read_79 : decode cX7_read 79 = .ok (.iload_n 2, 1) := by decide +kernel
theorem dX7_read_80 : decode cX7_read 80 = .ok (.iload 9, 2) := by decide +kernel
theorem dX7_read_82 : decode cX7_read 82 = .ok (.invokevirtual 272, 3) := by decide +kernel
theorem dX7_read_85 : decode cX7_read 85 = .ok (.istore 6, 2) := by decide +kernel
theorem dX7_read_87 : decode cX7_read 87 = .ok (.iload 6, 2) := by decide +kernel
theorem dX7_read_89 : decode cX7_read 89 = .ok (.ifCond .ne 50, 3) := by decide +kernel
theorem dX7_read_92 : decode cX7_read 92 = .ok (.aload_n 0, 1) := by decide +kernel
theorem dX7_read_93 : decode cX7_read 93 = .ok (.getfield 16, 3) := by decide +kernel
theorem dX7_read_96 : decode cX7_read 96 = .ok (.aload 5, 2) := by decide +kernel
theorem dX7_read_98 : decode cX7_read 98 = .ok (.getfield 275, 3) := by decide +kernel
theorem dX7_read_101 : decode cX7_read 101 = .ok (.iload 9, 2) := by decide +kernel
theorem dX7_read_103 : decode cX7_read 103 = .ok (.iaload, 1) := by decide +kernel
theorem dX7_read_104 : decode cX7_read 104 = .ok (.aload 5, 2) := by decide +kernel
theorem dX7_read_106 : decode cX7_read 106 = .ok (.getfield 275, 3) := by decide +kernel
theorem dX7_read_109 : decode cX7_read 109 = .ok (.iload 9, 2) := by decide +kernel
theorem dX7_read_111 : decode cX7_read 111 = .ok (.iconst 1, 1) := by decide +kernel
theorem dX7_read_112 : decode cX7_read 112 = .ok (.iadd, 1) := by decide +kernel
theorem dX7_read_113 : decode cX7_read 113 = .ok (.iaload, 1) := by decide +kernel
theorem dX7_read_114 : decode cX7_read 114 = .ok (.aload 5, 2) := by decide +kernel
theorem dX7_read_116 : decode cX7_read 116 = .ok (.getfield 275, 3) := by decide +kernel
theorem dX7_read_119 : decode cX7_read 119 = .ok (.iload 9, 2) := by decide +kernel
theorem dX7_read_121 : decode cX7_read 121 = .ok (.iconst 2, 1) := by decide +kernel
theorem dX7_read_122 : decode cX7_read 122 = .ok (.iadd, 1) := by decide +kernel
theorem dX7_read_123 : decode cX7_read 123 = .ok (.iaload, 1) := by decide +kernel
theorem dX7_read_124 : decode cX7_read 124 = .ok (.invokevirtual 171, 3) := by decide +kernel
theorem dX7_read_127 : decode cX7_read 127 = .ok (.ifCond .ge 9, 3) := by decide +kernel
theorem dX7_read_130 : decode cX7_read 130 = .ok (.bipush (-20), 2) := by decide +kernel
theorem dX7_read_132 : decode cX7_read 132 = .ok (.iload 8, 2) := by decide +kernel
theorem dX7_read_134 : decode cX7_read 134 = .ok (.isub, 1) := by decide +kernel
theorem dX7_read_135 : decode cX7_read 135 = .ok (.ireturn, 1) := by decide +kernel
theorem dX7_read_136 : decode cX7_read 136 = .ok (.iinc 7 1, 3) := by decide +kernel
theorem dX7_read_139 : decode cX7_read 139 = .ok (.iinc 8 1, 3) := by decide +kernel
theorem dX7_read_142 : decode cX7_read 142 = .ok (.goto (-85), 3) := by decide +kernel
theorem dX7_read_145 : decode cX7_read 145 = .ok (.aload_n 0, 1) := by decide +kernel
theorem dX7_read_146 : decode cX7_read 146 = .ok (.getfield 10, 3) := by decide +kernel
theorem dX7_read_149 : decode cX7_read 149 = .ok (.aload_n 0, 1) := by decide +kernel
theorem dX7_read_150 : decode cX7_read 150 = .ok (.getfield 16, 3) := by decide +kernel
theorem dX7_read_153 : decode cX7_read 153 = .ok (.invokevirtual 92, 3) := by decide +kernel
theorem dX7_read_156 : decode cX7_read 156 = .ok (.aload_n 0, 1) := by decide +kernel
theorem dX7_read_157 : decode cX7_read 157 = .ok (.iload 6, 2) := by decide +kernel
theorem dX7_read_159 : decode cX7_read 159 = .ok (.putfield 278, 3) := by decide +kernel
theorem dX7_read_162 : decode cX7_read 162 = .ok (.iload 7, 2) := by decide +kernel
theorem dX7_read_164 : decode cX7_read 164 = .ok (.ireturn, 1) := by decide +kernel
theorem dX7_torn_0 : decode cX7_torn 0 = .ok (.aload_n 0, 1) := by decide +kernel
theorem dX7_torn_1 : decode cX7_torn 1 = .ok (.getfield 278, 3) := by decide +kernel
theorem dX7_torn_4 : decode cX7_torn 4 = .ok (.ireturn, 1) := by decide +kernel
set_option maxRecDepth 20000 in
theorem ggX7_count_X7_imagesKept : GoodIn wsX7_count wsX7_imagesKept := goodIn_r _ [13, 14, 15, 22, 23, 24, 25, 26, 27, 28, 29, 30, 31, 32, 53, 54, 55] (by decide +kernel) (by decide +kernel)
set_option maxRecDepth 20000 in
theorem gX7_count_X7_imagesKept : GoodIn wsX7_count (wsV RX7 281 RX7 yX7_imagesKept wsX7_imagesKept) := goodIn_app (goodIn_of _ (by decide +kernel)) ggX7_count_X7_imagesKept
set_option maxRecDepth 20000 in
theorem ggX7_count_X1_debtsInAll : GoodIn wsX7_count wsX1_debtsInAll := goodIn_r _ [20, 21, 56, 57, 58, 59, 60, 61, 62] (by decide +kernel) (by decide +kernel)
set_option maxRecDepth 20000 in
theorem gX7_count_X1_debtsInAll : GoodIn wsX7_count (wsV RX7 288 RX1 yX1_debtsInAll wsX1_debtsInAll) := goodIn_app (goodIn_of _ (by decide +kernel)) ggX7_count_X1_debtsInAll
theorem dX7_count_0 : decode cX7_count 0 = .ok (.iload_n 1, 1) := by decide +kernel
theorem dX7_count_1 : decode cX7_count 1 = .ok (.tableswitch 91 0 4 #[35, 43, 48, 56, 83], 35) := by decide +kernel
theorem dX7_count_36 : decode cX7_count 36 = .ok (.aload_n 0, 1) := by decide +kernel
theorem dX7_count_37 : decode cX7_count 37 = .ok (.getfield 36, 3) := by decide +kernel
theorem dX7_count_40 : decode cX7_count 40 = .ok (.getfield 96, 3) := by decide +kernel
theorem dX7_count_43 : decode cX7_count 43 = .ok (.ireturn, 1) := by decide +kernel
theorem dX7_count_44 : decode cX7_count 44 = .ok (.aload_n 0, 1) := by decide +kernel
theorem dX7_count_45 : decode cX7_count 45 = .ok (.invokevirtual 281, 3) := by decide +kernel
theorem dX7_count_48 : decode cX7_count 48 = .ok (.ireturn, 1) := by decide +kernel
theorem dX7_count_49 : decode cX7_count 49 = .ok (.aload_n 0, 1) := by decide +kernel
theorem dX7_count_50 : decode cX7_count 50 = .ok (.getfield 57, 3) := by decide +kernel
theorem dX7_count_53 : decode cX7_count 53 = .ok (.getfield 69, 3) := by decide +kernel
theorem dX7_count_56 : decode cX7_count 56 = .ok (.ireturn, 1) := by decide +kernel
theorem dX7_count_57 : decode cX7_count 57 = .ok (.aload_n 0, 1) := by decide +kernel
theorem dX7_count_58 : decode cX7_count 58 = .ok (.getfield 49, 3) := by decide +kernel
theorem dX7_count_61 : decode cX7_count 61 = .ok (.iconst 0, 1) := by decide +kernel
theorem dX7_count_62 : decode cX7_count 62 = .ok (.aaload, 1) := by decide +kernel
theorem dX7_count_63 : decode cX7_count 63 = .ok (.getfield 284, 3) := by decide +kernel
theorem dX7_count_66 : decode cX7_count 66 = .ok (.ifCond .eq 15, 3) := by decide +kernel
theorem dX7_count_69 : decode cX7_count 69 = .ok (.aload_n 0, 1) := by decide +kernel
theorem dX7_count_70 : decode cX7_count 70 = .ok (.getfield 49, 3) := by decide +kernel
theorem dX7_count_73 : decode cX7_count 73 = .ok (.iconst 0, 1) := by decide +kernel
theorem dX7_count_74 : decode cX7_count 74 = .ok (.aaload, 1) := by decide +kernel
theorem dX7_count_75 : decode cX7_count 75 = .ok (.getfield 287, 3) := by decide +kernel
theorem dX7_count_78 : decode cX7_count 78 = .ok (.goto 5, 3) := by decide +kernel
theorem dX7_count_81 : decode cX7_count 81 = .ok (.bipush (-4), 2) := by decide +kernel
theorem dX7_count_83 : decode cX7_count 83 = .ok (.ireturn, 1) := by decide +kernel
theorem dX7_count_84 : decode cX7_count 84 = .ok (.aload_n 0, 1) := by decide +kernel
theorem dX7_count_85 : decode cX7_count 85 = .ok (.getfield 10, 3) := by decide +kernel
theorem dX7_count_88 : decode cX7_count 88 = .ok (.invokevirtual 288, 3) := by decide +kernel
theorem dX7_count_91 : decode cX7_count 91 = .ok (.ireturn, 1) := by decide +kernel
theorem dX7_count_92 : decode cX7_count 92 = .ok (.iconst (-1), 1) := by decide +kernel
theorem dX7_count_93 : decode cX7_count 93 = .ok (.ireturn, 1) := by decide +kernel
theorem dX7_within_0 : decode cX7_within 0 = .ok (.iload_n 0, 1) := by decide +kernel
theorem dX7_within_1 : decode cX7_within 1 = .ok (.iload_n 1, 1) := by decide +kernel
theorem dX7_within_2 : decode cX7_within 2 = .ok (.if_icmp .lt 12, 3) := by decide +kernel
theorem dX7_within_5 : decode cX7_within 5 = .ok (.iload_n 0, 1) := by decide +kernel
theorem dX7_within_6 : decode cX7_within 6 = .ok (.iload_n 2, 1) := by decide +kernel
theorem dX7_within_7 : decode cX7_within 7 = .ok (.if_icmp .gt 7, 3) := by decide +kernel
theorem dX7_within_10 : decode cX7_within 10 = .ok (.iconst 1, 1) := by decide +kernel
theorem dX7_within_11 : decode cX7_within 11 = .ok (.goto 4, 3) := by decide +kernel
theorem dX7_within_14 : decode cX7_within 14 = .ok (.iconst 0, 1) := by decide +kernel
theorem dX7_within_15 : decode cX7_within 15 = .ok (.ireturn, 1) := by decide +kernel
set_option maxRecDepth 20000 in
theorem ggX7_areOdds_X7_within : GoodIn wsX7_areOdds wsX7_within := goodIn_r _ [4] (by decide +kernel) (by decide +kernel)
set_option maxRecDepth 20000 in
theorem gX7_areOdds_X7_within : GoodIn wsX7_areOdds (va_wsS RX7 65 yX7_within wsX7_within) := goodIn_app (goodIn_of _ (by decide +kernel)) ggX7_areOdds_X7_within
theorem dX7_areOdds_0 : decode cX7_areOdds 0 = .ok (.iload_n 0, 1) := by decide +kernel
theorem dX7_areOdds_1 : decode cX7_areOdds 1 = .ok (.iconst 0, 1) := by decide +kernel
theorem dX7_areOdds_2 : decode cX7_areOdds 2 = .ok (.bipush 10, 2) := by decide +kernel
theorem dX7_areOdds_4 : decode cX7_areOdds 4 = .ok (.invokestatic 65, 3) := by decide +kernel
theorem dX7_areOdds_7 : decode cX7_areOdds 7 = .ok (.ifCond .eq 26, 3) := by decide +kernel
theorem dX7_areOdds_10 : decode cX7_areOdds 10 = .ok (.iload_n 1, 1) := by decide +kernel
theorem dX7_areOdds_11 : decode cX7_areOdds 11 = .ok (.iconst 0, 1) := by decide +kernel
theorem dX7_areOdds_12 : decode cX7_areOdds 12 = .ok (.bipush 8, 2) := by decide +kernel
theorem dX7_areOdds_14 : decode cX7_areOdds 14 = .ok (.invokestatic 65, 3) := by decide +kernel
theorem dX7_areOdds_17 : decode cX7_areOdds 17 = .ok (.ifCond .eq 16, 3) := by decide +kernel
theorem dX7_areOdds_20 : decode cX7_areOdds 20 = .ok (.iload_n 2, 1) := by decide +kernel
theorem dX7_areOdds_21 : decode cX7_areOdds 21 = .ok (.iconst 0, 1) := by decide +kernel
theorem dX7_areOdds_22 : decode cX7_areOdds 22 = .ok (.iconst 1, 1) := by decide +kernel
theorem dX7_areOdds_23 : decode cX7_areOdds 23 = .ok (.invokestatic 65, 3) := by decide +kernel
theorem dX7_areOdds_26 : decode cX7_areOdds 26 = .ok (.ifCond .eq 7, 3) := by decide +kernel
theorem dX7_areOdds_29 : decode cX7_areOdds 29 = .ok (.iconst 1, 1) := by decide +kernel
theorem dX7_areOdds_30 : decode cX7_areOdds 30 = .ok (.goto 4, 3) := by decide +kernel
theorem dX7_areOdds_33 : decode cX7_areOdds 33 = .ok (.iconst 0, 1) := by decide +kernel
theorem dX7_areOdds_34 : decode cX7_areOdds 34 = .ok (.ireturn, 1) := by decide +kernel
set_option maxRecDepth 20000 in
theorem ggX7_isSheet_X7_within : GoodIn wsX7_isSheet wsX7_within := goodIn_r _ [4] (by decide +kernel) (by decide +kernel)
set_option maxRecDepth 20000 in
theorem gX7_isSheet_X7_within : GoodIn wsX7_isSheet (va_wsS RX7 65 yX7_within wsX7_within) := goodIn_app (goodIn_of _ (by decide +kernel)) ggX7_isSheet_X7_within
theorem dX7_isSheet_0 : decode cX7_isSheet 0 = .ok (.iload_n 0, 1) := by decide +kernel
theorem dX7_isSheet_1 : decode cX7_isSheet 1 = .ok (.iconst 0, 1) := by decide +kernel
theorem dX7_isSheet_2 : decode cX7_isSheet 2 = .ok (.iconst 3, 1) := by decide +kernel
theorem dX7_isSheet_3 : decode cX7_isSheet 3 = .ok (.invokestatic 65, 3) := by decide +kernel
theorem dX7_isSheet_6 : decode cX7_isSheet 6 = .ok (.ireturn, 1) := by decide +kernel
set_option maxRecDepth 20000 in
theorem ggX7_swap_X7_within : GoodIn wsX7_swap wsX7_within := goodIn_r _ [4] (by decide +kernel) (by decide +kernel)
set_option maxRecDepth 20000 in
theorem gX7_swap_X7_within : GoodIn wsX7_swap (va_wsS RX7 65 yX7_within wsX7_within) := goodIn_app (goodIn_of _ (by decide +kernel)) ggX7_swap_X7_within
theorem dX7_swap_0 : decode cX7_swap 0 = .ok (.iload_n 2, 1) := by decide +kernel
theorem dX7_swap_1 : decode cX7_swap 1 = .ok (.iconst 0, 1) := by decide +kernel
theorem dX7_swap_2 : decode cX7_swap 2 = .ok (.iload_n 3, 1) := by decide +kernel
theorem dX7_swap_3 : decode cX7_swap 3 = .ok (.invokestatic 65, 3) := by decide +kernel
theorem dX7_swap_6 : decode cX7_swap 6 = .ok (.ifCond .eq 15, 3) := by decide +kernel
theorem dX7_swap_9 : decode cX7_swap 9 = .ok (.iload_n 1, 1) := by decide +kernel
theorem dX7_swap_10 : decode cX7_swap 10 = .ok (.iconst 0, 1) := by decide +kernel
theorem dX7_swap_11 : decode cX7_swap 11 = .ok (.aload_n 0, 1) := by decide +kernel
theorem dX7_swap_12 : decode cX7_swap 12 = .ok (.arraylength, 1) := by decide +kernel
theorem dX7_swap_13 : decode cX7_swap 13 = .ok (.iconst 1, 1) := by decide +kernel
theorem dX7_swap_14 : decode cX7_swap 14 = .ok (.isub, 1) := by decide +kernel
theorem dX7_swap_15 : decode cX7_swap 15 = .ok (.invokestatic 65, 3) := by decide +kernel
theorem dX7_swap_18 : decode cX7_swap 18 = .ok (.ifCond .ne 5, 3) := by decide +kernel
theorem dX7_swap_21 : decode cX7_swap 21 = .ok (.iconst (-1), 1) := by decide +kernel
theorem dX7_swap_22 : decode cX7_swap 22 = .ok (.ireturn, 1) := by decide +kernel
theorem dX7_swap_23 : decode cX7_swap 23 = .ok (.aload_n 0, 1) := by decide +kernel
theorem dX7_swap_24 : decode cX7_swap 24 = .ok (.iload_n 1, 1) := by decide +kernel
theorem dX7_swap_25 : decode cX7_swap 25 = .ok (.iaload, 1) := by decide +kernel
theorem dX7_swap_26 : decode cX7_swap 26 = .ok (.istore 4, 2) := by decide +kernel
theorem dX7_swap_28 : decode cX7_swap 28 = .ok (.aload_n 0, 1) := by decide +kernel
theorem dX7_swap_29 : decode cX7_swap 29 = .ok (.iload_n 1, 1) := by decide +kernel
theorem dX7_swap_30 : decode cX7_swap 30 = .ok (.iload_n 2, 1) := by decide +kernel
theorem dX7_swap_31 : decode cX7_swap 31 = .ok (.iastore, 1) := by decide +kernel
theorem dX7_swap_32 : decode cX7_swap 32 = .ok (.iload 4, 2) := by decide +kernel
theorem dX7_swap_34 : decode cX7_swap 34 = .ok (.ireturn, 1) := by decide +kernel
set_option maxRecDepth 20000 in
theorem ggX7_ridersIfForgiven_X1_become : GoodIn wsX7_ridersIfForgiven wsX1_become := goodIn_r _ [7, 8, 9, 10, 11, 12, 13, 14, 15, 16, 17, 18, 89, 90, 91, 92, 93, 94, 95] (by decide +kernel) (by decide +kernel)
set_option maxRecDepth 20000 in
theorem gX7_ridersIfForgiven_X1_become : GoodIn wsX7_ridersIfForgiven (wsV RX7 92 RX1 yX1_become wsX1_become) := goodIn_app (goodIn_of _ (by decide +kernel)) ggX7_ridersIfForgiven_X1_become
set_option maxRecDepth 20000 in
theorem ggX7_ridersIfForgiven_X1_setDebt : GoodIn wsX7_ridersIfForgiven wsX1_setDebt := goodIn_r _ [22, 18, 89, 90, 91, 92, 93, 94, 95] (by decide +kernel) (by decide +kernel)
set_option maxRecDepth 20000 in
theorem gX7_ridersIfForgiven_X1_setDebt : GoodIn wsX7_ridersIfForgiven (wsV RX7 163 RX1 yX1_setDebt wsX1_setDebt) := goodIn_app (goodIn_of _ (by decide +kernel)) ggX7_ridersIfForgiven_X1_setDebt
set_option maxRecDepth 20000 in
theorem ggX7_ridersIfForgiven_X1_ridersInTheEnd : GoodIn wsX7_ridersIfForgiven wsX1_ridersInTheEnd := goodIn_r _ [26, 10, 27, 28, 29, 6, 30, 8, 17, 31, 32, 33, 34, 9, 35, 36, 37, 38, 16, 39, 40, 41, 42, 43, 44, 45, 46, 47, 48, 49, 11, 50, 51, 52, 53, 18, 54, 55, 56, 57, 58, 59, 60, 61, 62, 20, 21, 22, 63, 64, 65, 66, 67, 68, 69, 70, 71, 72, 73, 74, 75, 76, 77, 89, 90, 91, 92, 93, 94, 95] (by decide +kernel) (by decide +kernel)
set_option maxRecDepth 20000 in
theorem gX7_ridersIfForgiven_X1_ridersInTheEnd : GoodIn wsX7_ridersIfForgiven (wsV RX7 207 RX1 yX1_ridersInTheEnd wsX1_ridersInTheEnd) := goodIn_app (goodIn_of _ (by decide +kernel)) ggX7_ridersIfForgiven_X1_ridersInTheEnd
theorem dX7_ridersIfForgiven_0 : decode cX7_ridersIfForgiven 0 = .ok (.aload_n 0, 1) := by decide +kernel
theorem dX7_ridersIfForgiven_1 : decode cX7_ridersIfForgiven 1 = .ok (.getfield 16, 3) := by decide +kernel
theorem dX7_ridersIfForgiven_4 : decode cX7_ridersIfForgiven 4 = .ok (.aload_n 0, 1) := by decide +kernel
theorem dX7_ridersIfForgiven_5 : decode cX7_ridersIfForgiven 5 = .ok (.getfield 10, 3) := by decide +kernel
theorem dX7_ridersIfForgiven_8 : decode cX7_ridersIfForgiven 8 = .ok (.invokevirtual 92, 3) := by decide +kernel
theorem dX7_ridersIfForgiven_11 : decode cX7_ridersIfForgiven 11 = .ok (.aload_n 0, 1) := by decide +kernel
theorem dX7_ridersIfForgiven_12 : decode cX7_ridersIfForgiven 12 = .ok (.getfield 16, 3) := by decide +kernel
theorem dX7_ridersIfForgiven_15 : decode cX7_ridersIfForgiven 15 = .ok (.iload_n 1, 1) := by decide +kernel
theorem dX7_ridersIfForgiven_16 : decode cX7_ridersIfForgiven 16 = .ok (.iload_n 2, 1) := by decide +kernel
theorem dX7_ridersIfForgiven_17 : decode cX7_ridersIfForgiven 17 = .ok (.iconst 0, 1) := by decide +kernel
theorem dX7_ridersIfForgiven_18 : decode cX7_ridersIfForgiven 18 = .ok (.invokevirtual 163, 3) := by decide +kernel
theorem dX7_ridersIfForgiven_21 : decode cX7_ridersIfForgiven 21 = .ok (.aload_n 0, 1) := by decide +kernel
theorem dX7_ridersIfForgiven_22 : decode cX7_ridersIfForgiven 22 = .ok (.getfield 16, 3) := by decide +kernel
theorem dX7_ridersIfForgiven_25 : decode cX7_ridersIfForgiven 25 = .ok (.invokevirtual 207, 3) := by decide +kernel
theorem dX7_ridersIfForgiven_28 : decode cX7_ridersIfForgiven 28 = .ok (.ireturn, 1) := by decide +kernel
set_option maxRecDepth 20000 in
theorem ggX7_daysByDryness_X1_become : GoodIn wsX7_daysByDryness wsX1_become := goodIn_r _ [8, 9, 10, 11, 12, 13, 14, 15, 16, 17, 18, 19, 78, 79, 80, 81, 82, 83, 84] (by decide +kernel) (by decide +kernel)
set_option maxRecDepth 20000 in
theorem gX7_daysByDryness_X1_become : GoodIn wsX7_daysByDryness (wsV RX7 92 RX1 yX1_become wsX1_become) := goodIn_app (goodIn_of _ (by decide +kernel)) ggX7_daysByDryness_X1_become
set_option maxRecDepth 20000 in
theorem ggX7_daysByDryness_X1_daysTillRiding : GoodIn wsX7_daysByDryness wsX1_daysTillRiding := goodIn_r _ [23, 11, 24, 25, 26, 7, 27, 28, 29, 30, 31, 9, 19, 32, 33, 34, 35, 18, 36, 37, 38, 39, 10, 40, 41, 42, 43, 17, 44, 45, 46, 47, 48, 49, 50, 51, 52, 53, 54, 12, 55, 56, 57, 58, 59, 60, 61, 62, 63, 64, 65, 66, 78, 79, 80, 81, 82, 83, 84] (by decide +kernel) (by decide +kernel)
set_option maxRecDepth 20000 in
theorem gX7_daysByDryness_X1_daysTillRiding : GoodIn wsX7_daysByDryness (wsV RX7 180 RX1 yX1_daysTillRiding wsX1_daysTillRiding) := goodIn_app (goodIn_of _ (by decide +kernel)) ggX7_daysByDryness_X1_daysTillRiding
theorem dX7_daysByDryness_0 : decode cX7_daysByDryness 0 = .ok (.aload_n 0, 1) := by decide +kernel
theorem dX7_daysByDryness_1 : decode cX7_daysByDryness 1 = .ok (.getfield 16, 3) := by decide +kernel
theorem dX7_daysByDryness_4 : decode cX7_daysByDryness 4 = .ok (.aload_n 0, 1) := by decide +kernel
theorem dX7_daysByDryness_5 : decode cX7_daysByDryness 5 = .ok (.getfield 10, 3) := by decide +kernel
theorem dX7_daysByDryness_8 : decode cX7_daysByDryness 8 = .ok (.invokevirtual 92, 3) := by decide +kernel
theorem dX7_daysByDryness_11 : decode cX7_daysByDryness 11 = .ok (.aload_n 0, 1) := by decide +kernel
theorem dX7_daysByDryness_12 : decode cX7_daysByDryness 12 = .ok (.getfield 16, 3) := by decide +kernel
theorem dX7_daysByDryness_15 : decode cX7_daysByDryness 15 = .ok (.iload_n 2, 1) := by decide +kernel
theorem dX7_daysByDryness_16 : decode cX7_daysByDryness 16 = .ok (.putfield 112, 3) := by decide +kernel
theorem dX7_daysByDryness_19 : decode cX7_daysByDryness 19 = .ok (.aload_n 0, 1) := by decide +kernel
theorem dX7_daysByDryness_20 : decode cX7_daysByDryness 20 = .ok (.getfield 16, 3) := by decide +kernel
theorem dX7_daysByDryness_23 : decode cX7_daysByDryness 23 = .ok (.iload_n 1, 1) := by decide +kernel
theorem dX7_daysByDryness_24 : decode cX7_daysByDryness 24 = .ok (.invokevirtual 180, 3) := by decide +kernel
theorem dX7_daysByDryness_27 : decode cX7_daysByDryness 27 = .ok (.ireturn, 1) := by decide +kernel
set_option maxRecDepth 20000 in
theorem ggX7_possibleWages_X1_become : GoodIn wsX7_possibleWages wsX1_become := goodIn_r _ [9, 10, 11, 12, 13, 14, 15, 16, 17, 18, 19, 20, 94, 95, 96, 97, 98, 99, 100] (by decide +kernel) (by decide +kernel)
set_option maxRecDepth 20000 in
theorem gX7_possibleWages_X1_become : GoodIn wsX7_possibleWages (wsV RX7 92 RX1 yX1_become wsX1_become) := goodIn_app (goodIn_of _ (by decide +kernel)) ggX7_possibleWages_X1_become
set_option maxRecDepth 20000 in
theorem ggX7_possibleWages_X5_fits : GoodIn wsX7_possibleWages wsX5_fits := goodIn_r _ [25, 26, 27, 28, 29, 24, 30, 31, 32, 33, 34, 35, 36, 37, 38, 39, 40, 41, 42, 43, 44, 45, 8, 46, 47, 48, 49, 50, 10, 20, 51, 52, 53, 54, 19, 55, 11, 56, 57, 58, 59, 18, 60, 61, 62, 63, 64, 65, 66, 67, 68, 69, 70, 13, 71, 72, 73, 74, 75, 76, 77, 78, 79, 80, 81, 82, 94, 95, 96, 97, 98, 99, 100, 101, 102, 103, 104] (by decide +kernel) (by decide +kernel)
set_option maxRecDepth 20000 in
theorem gX7_possibleWages_X5_fits : GoodIn wsX7_possibleWages (wsV RX7 233 RX5 yX5_fits wsX5_fits) := goodIn_app (goodIn_of _ (by decide +kernel)) ggX7_possibleWages_X5_fits
theorem dX7_possibleWages_0 : decode cX7_possibleWages 0 = .ok (.iconst 0, 1) := by decide +kernel
theorem dX7_possibleWages_1 : decode cX7_possibleWages 1 = .ok (.istore_n 2, 1) := by decide +kernel
theorem dX7_possibleWages_2 : decode cX7_possibleWages 2 = .ok (.iconst 0, 1) := by decide +kernel
theorem dX7_possibleWages_3 : decode cX7_possibleWages 3 = .ok (.istore_n 3, 1) := by decide +kernel
theorem dX7_possibleWages_4 : decode cX7_possibleWages 4 = .ok (.iload_n 3, 1) := by decide +kernel
theorem dX7_possibleWages_5 : decode cX7_possibleWages 5 = .ok (.bipush 9, 2) := by decide +kernel
theorem dX7_possibleWages_7 : decode cX7_possibleWages 7 = .ok (.if_icmp .gt 50, 3) := by decide +kernel
theorem dX7_possibleWages_10 : decode cX7_possibleWages 10 = .ok (.aload_n 0, 1) := by decide +kernel
theorem dX7_possibleWages_11 : decode cX7_possibleWages 11 = .ok (.getfield 16, 3) := by decide +kernel
theorem dX7_possibleWages_14 : decode cX7_possibleWages 14 = .ok (.aload_n 0, 1) := by decide +kernel
theorem dX7_possibleWages_15 : decode cX7_possibleWages 15 = .ok (.getfield 10, 3) := by decide +kernel
theorem dX7_possibleWages_18 : decode cX7_possibleWages 18 = .ok (.invokevirtual 92, 3) := by decide +kernel
theorem dX7_possibleWages_21 : decode cX7_possibleWages 21 = .ok (.aload_n 0, 1) := by decide +kernel
theorem dX7_possibleWages_22 : decode cX7_possibleWages 22 = .ok (.getfield 16, 3) := by decide +kernel
theorem dX7_possibleWages_25 : decode cX7_possibleWages 25 = .ok (.getfield 135, 3) := by decide +kernel
theorem dX7_possibleWages_28 : decode cX7_possibleWages 28 = .ok (.iload_n 1, 1) := by decide +kernel
theorem dX7_possibleWages_29 : decode cX7_possibleWages 29 = .ok (.iload_n 3, 1) := by decide +kernel
theorem dX7_possibleWages_30 : decode cX7_possibleWages 30 = .ok (.iastore, 1) := by decide +kernel
theorem dX7_possibleWages_31 : decode cX7_possibleWages 31 = .ok (.aload_n 0, 1) := by decide +kernel
theorem dX7_possibleWages_32 : decode cX7_possibleWages 32 = .ok (.getfield 36, 3) := by decide +kernel
theorem dX7_possibleWages_35 : decode cX7_possibleWages 35 = .ok (.aload_n 0, 1) := by decide +kernel
theorem dX7_possibleWages_36 : decode cX7_possibleWages 36 = .ok (.getfield 16, 3) := by decide +kernel
theorem dX7_possibleWages_39 : decode cX7_possibleWages 39 = .ok (.invokevirtual 233, 3) := by decide +kernel
theorem dX7_possibleWages_42 : decode cX7_possibleWages 42 = .ok (.ifCond .eq 9, 3) := by decide +kernel
theorem dX7_possibleWages_45 : decode cX7_possibleWages 45 = .ok (.iload_n 2, 1) := by decide +kernel
theorem dX7_possibleWages_46 : decode cX7_possibleWages 46 = .ok (.iconst 1, 1) := by decide +kernel
theorem dX7_possibleWages_47 : decode cX7_possibleWages 47 = .ok (.iload_n 3, 1) := by decide +kernel
theorem dX7_possibleWages_48 : decode cX7_possibleWages 48 = .ok (.ishl, 1) := by decide +kernel
theorem dX7_possibleWages_49 : decode cX7_possibleWages 49 = .ok (.ior, 1) := by decide +kernel
theorem dX7_possibleWages_50 : decode cX7_possibleWages 50 = .ok (.istore_n 2, 1) := by decide +kernel
theorem dX7_possibleWages_51 : decode cX7_possibleWages 51 = .ok (.iinc 3 1, 3) := by decide +kernel
theorem dX7_possibleWages_54 : decode cX7_possibleWages 54 = .ok (.goto (-50), 3) := by decide +kernel
theorem dX7_possibleWages_57 : decode cX7_possibleWages 57 = .ok (.iload_n 2, 1) := by decide +kernel
theorem dX7_possibleWages_58 : decode cX7_possibleWages 58 = .ok (.ireturn, 1) := by decide +kernel
set_option maxRecDepth 20000 in
theorem ggX7_countUpBehind_J7_fill_53178 : GoodIn wsX7_countUpBehind wsJ7_fill_53178 := goodIn_r _ [9] (by decide +kernel) (by decide +kernel)
set_option maxRecDepth 20000 in
theorem gX7_countUpBehind_J7_fill_53178 : GoodIn wsX7_countUpBehind (va_wsS RX7 291 yJ7_fill_53178 wsJ7_fill_53178) := goodIn_app (goodIn_of _ (by decide +kernel)) ggX7_countUpBehind_J7_fill_53178
set_option maxRecDepth 20000 in
theorem ggX7_countUpBehind_X1_become : GoodIn wsX7_countUpBehind wsX1_become := goodIn_r _ [14, 15, 16, 17, 18, 19, 20, 21, 22, 23, 24, 25, 80, 81, 82, 83, 84, 85, 86] (by decide +kernel) (by decide +kernel)
set_option maxRecDepth 20000 in
theorem gX7_countUpBehind_X1_become : GoodIn wsX7_countUpBehind (wsV RX7 92 RX1 yX1_become wsX1_become) := goodIn_app (goodIn_of _ (by decide +kernel)) ggX7_countUpBehind_X1_become
set_option maxRecDepth 20000 in
theorem ggX7_countUpBehind_X1_isRiding : GoodIn wsX7_countUpBehind wsX1_isRiding := goodIn_r _ [29, 30, 31, 32, 13, 33, 15, 25, 80, 81, 82, 83, 84, 85, 86] (by decide +kernel) (by decide +kernel)
set_option maxRecDepth 20000 in
theorem gX7_countUpBehind_X1_isRiding : GoodIn wsX7_countUpBehind (wsV RX7 297 RX1 yX1_isRiding wsX1_isRiding) := goodIn_app (goodIn_of _ (by decide +kernel)) ggX7_countUpBehind_X1_isRiding
set_option maxRecDepth 20000 in
theorem ggX7_countUpBehind_X1_runDay : GoodIn wsX7_countUpBehind wsX1_runDay := goodIn_r _ [37, 15, 24, 38, 39, 40, 41, 16, 42, 43, 44, 13, 45, 23, 46, 47, 48, 49, 50, 51, 52, 53, 54, 55, 56, 18, 30, 31, 32, 33, 25, 57, 58, 59, 60, 61, 62, 63, 64, 65, 66, 67, 68, 80, 81, 82, 83, 84, 85, 86] (by decide +kernel) (by decide +kernel)
set_option maxRecDepth 20000 in
theorem gX7_countUpBehind_X1_runDay : GoodIn wsX7_countUpBehind (wsV RX7 248 RX1 yX1_runDay wsX1_runDay) := goodIn_app (goodIn_of _ (by decide +kernel)) ggX7_countUpBehind_X1_runDay
theorem dX7_countUpBehind_0 : decode cX7_countUpBehind 0 = .ok (.aload_n 0, 1) := by decide +kernel
theorem dX7_countUpBehind_1 : decode cX7_countUpBehind 1 = .ok (.getfield 61, 3) := by decide +kernel
theorem dX7_countUpBehind_4 : decode cX7_countUpBehind 4 = .ok (.iconst 0, 1) := by decide +kernel
theorem dX7_countUpBehind_5 : decode cX7_countUpBehind 5 = .ok (.invokestatic 291, 3) := by decide +kernel
theorem dX7_countUpBehind_8 : decode cX7_countUpBehind 8 = .ok (.iconst 0, 1) := by decide +kernel
theorem dX7_countUpBehind_9 : decode cX7_countUpBehind 9 = .ok (.istore_n 3, 1) := by decide +kernel
theorem dX7_countUpBehind_10 : decode cX7_countUpBehind 10 = .ok (.iload_n 3, 1) := by decide +kernel
theorem dX7_countUpBehind_11 : decode cX7_countUpBehind 11 = .ok (.bipush 9, 2) := by decide +kernel
theorem dX7_countUpBehind_13 : decode cX7_countUpBehind 13 = .ok (.if_icmp .gt 92, 3) := by decide +kernel
theorem dX7_countUpBehind_16 : decode cX7_countUpBehind 16 = .ok (.iload_n 2, 1) := by decide +kernel
theorem dX7_countUpBehind_17 : decode cX7_countUpBehind 17 = .ok (.iload_n 3, 1) := by decide +kernel
theorem dX7_countUpBehind_18 : decode cX7_countUpBehind 18 = .ok (.ishr, 1) := by decide +kernel
theorem dX7_countUpBehind_19 : decode cX7_countUpBehind 19 = .ok (.iconst 1, 1) := by decide +kernel
theorem dX7_countUpBehind_20 : decode cX7_countUpBehind 20 = .ok (.iand, 1) := by decide +kernel
theorem dX7_countUpBehind_21 : decode cX7_countUpBehind 21 = .ok (.iconst 1, 1) := by decide +kernel
theorem dX7_countUpBehind_22 : decode cX7_countUpBehind 22 = .ok (.if_icmp .ne 77, 3) := by decide +kernel
theorem dX7_countUpBehind_25 : decode cX7_countUpBehind 25 = .ok (.aload_n 0, 1) := by decide +kernel
theorem dX7_countUpBehind_26 : decode cX7_countUpBehind 26 = .ok (.getfield 16, 3) := by decide +kernel
theorem dX7_countUpBehind_29 : decode cX7_countUpBehind 29 = .ok (.aload_n 0, 1) := by decide +kernel
theorem dX7_countUpBehind_30 : decode cX7_countUpBehind 30 = .ok (.getfield 10, 3) := by decide +kernel
theorem dX7_countUpBehind_33 : decode cX7_countUpBehind 33 = .ok (.invokevirtual 92, 3) := by decide +kernel
theorem dX7_countUpBehind_36 : decode cX7_countUpBehind 36 = .ok (.aload_n 0, 1) := by decide +kernel
theorem dX7_countUpBehind_37 : decode cX7_countUpBehind 37 = .ok (.getfield 16, 3) := by decide +kernel
theorem dX7_countUpBehind_40 : decode cX7_countUpBehind 40 = .ok (.getfield 135, 3) := by decide +kernel
theorem dX7_countUpBehind_43 : decode cX7_countUpBehind 43 = .ok (.iload_n 1, 1) := by decide +kernel
theorem dX7_countUpBehind_44 : decode cX7_countUpBehind 44 = .ok (.iload_n 3, 1) := by decide +kernel
theorem dX7_countUpBehind_45 : decode cX7_countUpBehind 45 = .ok (.iastore, 1) := by decide +kernel
theorem dX7_countUpBehind_46 : decode cX7_countUpBehind 46 = .ok (.iconst 0, 1) := by decide +kernel
theorem dX7_countUpBehind_47 : decode cX7_countUpBehind 47 = .ok (.istore 4, 2) := by decide +kernel
theorem dX7_countUpBehind_49 : decode cX7_countUpBehind 49 = .ok (.iload 4, 2) := by decide +kernel
theorem dX7_countUpBehind_51 : decode cX7_countUpBehind 51 = .ok (.bipush 30, 2) := by decide +kernel
theorem dX7_countUpBehind_53 : decode cX7_countUpBehind 53 = .ok (.if_icmp .gt 46, 3) := by decide +kernel
theorem dX7_countUpBehind_56 : decode cX7_countUpBehind 56 = .ok (.aload_n 0, 1) := by decide +kernel
theorem dX7_countUpBehind_57 : decode cX7_countUpBehind 57 = .ok (.getfield 16, 3) := by decide +kernel
theorem dX7_countUpBehind_60 : decode cX7_countUpBehind 60 = .ok (.iload_n 1, 1) := by decide +kernel
theorem dX7_countUpBehind_61 : decode cX7_countUpBehind 61 = .ok (.invokevirtual 297, 3) := by decide +kernel
theorem dX7_countUpBehind_64 : decode cX7_countUpBehind 64 = .ok (.ifCond .eq 14, 3) := by decide +kernel
theorem dX7_countUpBehind_67 : decode cX7_countUpBehind 67 = .ok (.aload_n 0, 1) := by decide +kernel
theorem dX7_countUpBehind_68 : decode cX7_countUpBehind 68 = .ok (.getfield 61, 3) := by decide +kernel
theorem dX7_countUpBehind_71 : decode cX7_countUpBehind 71 = .ok (.iload 4, 2) := by decide +kernel
theorem dX7_countUpBehind_73 : decode cX7_countUpBehind 73 = .ok (.dup2, 1) := by decide +kernel
theorem dX7_countUpBehind_74 : decode cX7_countUpBehind 74 = .ok (.iaload, 1) := by decide +kernel
theorem dX7_countUpBehind_75 : decode cX7_countUpBehind 75 = .ok (.iconst 1, 1) := by decide +kernel
theorem dX7_countUpBehind_76 : decode cX7_countUpBehind 76 = .ok (.iadd, 1) := by decide +kernel
theorem dX7_countUpBehind_77 : decode cX7_countUpBehind 77 = .ok (.iastore, 1) := by decide +kernel
theorem dX7_countUpBehind_78 : decode cX7_countUpBehind 78 = .ok (.aload_n 0, 1) := by decide +kernel
theorem dX7_countUpBehind_79 : decode cX7_countUpBehind 79 = .ok (.getfield 16, 3) := by decide +kernel
theorem dX7_countUpBehind_82 : decode cX7_countUpBehind 82 = .ok (.aload_n 0, 1) := by decide +kernel
theorem dX7_countUpBehind_83 : decode cX7_countUpBehind 83 = .ok (.getfield 16, 3) := by decide +kernel
theorem dX7_countUpBehind_86 : decode cX7_countUpBehind 86 = .ok (.getfield 112, 3) := by decide +kernel
theorem dX7_countUpBehind_89 : decode cX7_countUpBehind 89 = .ok (.invokevirtual 248, 3) := by decide +kernel
theorem dX7_countUpBehind_92 : decode cX7_countUpBehind 92 = .ok (.pop, 1) := by decide +kernel
theorem dX7_countUpBehind_93 : decode cX7_countUpBehind 93 = .ok (.iinc 4 1, 3) := by decide +kernel
theorem dX7_countUpBehind_96 : decode cX7_countUpBehind 96 = .ok (.goto (-47), 3) := by decide +kernel
theorem dX7_countUpBehind_99 : decode cX7_countUpBehind 99 = .ok (.iinc 3 1, 3) := by decide +kernel
theorem dX7_countUpBehind_102 : decode cX7_countUpBehind 102 = .ok (.goto (-92), 3) := by decide +kernel
theorem dX7_countUpBehind_105 : decode cX7_countUpBehind 105 = .ok (.return_, 1) := by decide +kernel
theorem dX7_imagesKept_0 : decode cX7_imagesKept 0 = .ok (.iconst 0, 1) := by decide +kernel
theorem dX7_imagesKept_1 : decode cX7_imagesKept 1 = .ok (.istore_n 1, 1) := by decide +kernel
theorem dX7_imagesKept_2 : decode cX7_imagesKept 2 = .ok (.iconst 0, 1) := by decide +kernel
theorem dX7_imagesKept_3 : decode cX7_imagesKept 3 = .ok (.istore_n 2, 1) := by decide +kernel
theorem dX7_imagesKept_4 : decode cX7_imagesKept 4 = .ok (.iload_n 2, 1) := by decide +kernel
theorem dX7_imagesKept_5 : decode cX7_imagesKept 5 = .ok (.iconst 2, 1) := by decide +kernel
theorem dX7_imagesKept_6 : decode cX7_imagesKept 6 = .ok (.if_icmp .ge 24, 3) := by decide +kernel
theorem dX7_imagesKept_9 : decode cX7_imagesKept 9 = .ok (.aload_n 0, 1) := by decide +kernel
theorem dX7_imagesKept_10 : decode cX7_imagesKept 10 = .ok (.getfield 42, 3) := by decide +kernel
theorem dX7_imagesKept_13 : decode cX7_imagesKept 13 = .ok (.iload_n 2, 1) := by decide +kernel
theorem dX7_imagesKept_14 : decode cX7_imagesKept 14 = .ok (.aaload, 1) := by decide +kernel
theorem dX7_imagesKept_15 : decode cX7_imagesKept 15 = .ok (.getfield 99, 3) := by decide +kernel
theorem dX7_imagesKept_18 : decode cX7_imagesKept 18 = .ok (.ifCond .eq 6, 3) := by decide +kernel
theorem dX7_imagesKept_21 : decode cX7_imagesKept 21 = .ok (.iinc 1 1, 3) := by decide +kernel
theorem dX7_imagesKept_24 : decode cX7_imagesKept 24 = .ok (.iinc 2 1, 3) := by decide +kernel
theorem dX7_imagesKept_27 : decode cX7_imagesKept 27 = .ok (.goto (-23), 3) := by decide +kernel
theorem dX7_imagesKept_30 : decode cX7_imagesKept 30 = .ok (.iload_n 1, 1) := by decide +kernel
theorem dX7_imagesKept_31 : decode cX7_imagesKept 31 = .ok (.ireturn, 1) := by decide +kernel
set_option maxRecDepth 20000 in
theorem ggX8_init_X8_firstDraft : GoodIn wsX8_init wsX8_firstDraft := goodIn_r _ [22, 9, 23, 24, 25, 26, 32, 33, 34, 35, 36, 37, 38, 39, 40, 41, 42, 43, 44, 45, 46, 47, 48, 49, 50, 51, 52, 53, 54, 55, 56, 57, 58, 59, 60, 61] (by decide +kernel) (by decide +kernel)
set_option maxRecDepth 20000 in
theorem gX8_init_X8_firstDraft : GoodIn wsX8_init (wsV RX8 47 RX8 yX8_firstDraft wsX8_firstDraft) := goodIn_app (goodIn_of _ (by decide +kernel)) ggX8_init_X8_firstDraft
set_option maxRecDepth 20000 in
theorem ggX8_init_X8_keepDraft : GoodIn wsX8_init wsX8_keepDraft := goodIn_r _ [30, 5, 9, 23, 31, 8, 32, 33, 34, 35, 36, 37, 38, 39, 40, 41, 42, 43, 44, 45, 46, 47, 48, 49, 50, 51, 52, 53, 54, 55, 56, 57, 58, 59, 60, 61] (by decide +kernel) (by decide +kernel)
set_option maxRecDepth 20000 in
theorem gX8_init_X8_keepDraft : GoodIn wsX8_init (wsV RX8 50 RX8 yX8_keepDraft wsX8_keepDraft) := goodIn_app (goodIn_of _ (by decide +kernel)) ggX8_init_X8_keepDraft
theorem dX8_init_0 : decode cX8_init 0 = .ok (.aload_n 0, 1) := by decide +kernel
theorem dX8_init_1 : decode cX8_init 1 = .ok (.invokespecial 1, 3) := by decide +kernel
theorem dX8_init_4 : decode cX8_init 4 = .ok (.aload_n 0, 1) := by decide +kernel
theorem dX8_init_5 : decode cX8_init 5 = .ok (.sipush 183, 3) := by decide +kernel
theorem dX8_init_8 : decode cX8_init 8 = .ok (.newarray .int, 2) := by decide +kernel
theorem dX8_init_10 : decode cX8_init 10 = .ok (.putfield 7, 3) := by decide +kernel
theorem dX8_init_13 : decode cX8_init 13 = .ok (.aload_n 0, 1) := by decide +kernel
theorem dX8_init_14 : decode cX8_init 14 = .ok (.bipush 61, 2) := by decide +kernel
theorem dX8_init_16 : decode cX8_init 16 = .ok (.newarray .int, 2) := by decide +kernel
theorem dX8_init_18 : decode cX8_init 18 = .ok (.putfield 13, 3) := by decide +kernel
theorem dX8_init_21 : decode cX8_init 21 = .ok (.aload_n 0, 1) := by decide +kernel
theorem dX8_init_22 : decode cX8_init 22 = .ok (.iconst 2, 1) := by decide +kernel
theorem dX8_init_23 : decode cX8_init 23 = .ok (.newarray .boolean, 2) := by decide +kernel
theorem dX8_init_25 : decode cX8_init 25 = .ok (.putfield 16, 3) := by decide +kernel
theorem dX8_init_28 : decode cX8_init 28 = .ok (.aload_n 0, 1) := by decide +kernel
theorem dX8_init_29 : decode cX8_init 29 = .ok (.bipush 61, 2) := by decide +kernel
theorem dX8_init_31 : decode cX8_init 31 = .ok (.newarray .int, 2) := by decide +kernel
theorem dX8_init_33 : decode cX8_init 33 = .ok (.putfield 20, 3) := by decide +kernel
theorem dX8_init_36 : decode cX8_init 36 = .ok (.aload_n 0, 1) := by decide +kernel
theorem dX8_init_37 : decode cX8_init 37 = .ok (.sipush 160, 3) := by decide +kernel
theorem dX8_init_40 : decode cX8_init 40 = .ok (.newarray .int, 2) := by decide +kernel
theorem dX8_init_42 : decode cX8_init 42 = .ok (.putfield 23, 3) := by decide +kernel
theorem dX8_init_45 : decode cX8_init 45 = .ok (.aload_n 0, 1) := by decide +kernel
theorem dX8_init_46 : decode cX8_init 46 = .ok (.iconst 5, 1) := by decide +kernel
theorem dX8_init_47 : decode cX8_init 47 = .ok (.newarray .int, 2) := by decide +kernel
theorem dX8_init_49 : decode cX8_init 49 = .ok (.putfield 26, 3) := by decide +kernel
theorem dX8_init_52 : decode cX8_init 52 = .ok (.aload_n 0, 1) := by decide +kernel
theorem dX8_init_53 : decode cX8_init 53 = .ok (.bipush 31, 2) := by decide +kernel
theorem dX8_init_55 : decode cX8_init 55 = .ok (.newarray .int, 2) := by decide +kernel
theorem dX8_init_57 : decode cX8_init 57 = .ok (.putfield 29, 3) := by decide +kernel
theorem dX8_init_60 : decode cX8_init 60 = .ok (.aload_n 0, 1) := by decide +kernel
theorem dX8_init_61 : decode cX8_init 61 = .ok (.bipush 31, 2) := by decide +kernel
theorem dX8_init_63 : decode cX8_init 63 = .ok (.newarray .int, 2) := by decide +kernel
theorem dX8_init_65 : decode cX8_init 65 = .ok (.putfield 32, 3) := by decide +kernel
theorem dX8_init_68 : decode cX8_init 68 = .ok (.aload_n 0, 1) := by decide +kernel
theorem dX8_init_69 : decode cX8_init 69 = .ok (.iconst 4, 1) := by decide +kernel
theorem dX8_init_70 : decode cX8_init 70 = .ok (.newarray .int, 2) := by decide +kernel
theorem dX8_init_72 : decode cX8_init 72 = .ok (.putfield 35, 3) := by decide +kernel
theorem dX8_init_75 : decode cX8_init 75 = .ok (.aload_n 0, 1) := by decide +kernel
theorem dX8_init_76 : decode cX8_init 76 = .ok (.iconst 4, 1) := by decide +kernel
theorem dX8_init_77 : decode cX8_init 77 = .ok (.newarray .int, 2) := by decide +kernel
theorem dX8_init_79 : decode cX8_init 79 = .ok (.putfield 38, 3) := by decide +kernel
theorem dX8_init_82 : decode cX8_init 82 = .ok (.aload_n 0, 1) := by decide +kernel
theorem dX8_init_83 : decode cX8_init 83 = .ok (.sipush 160, 3) := by decide +kernel
theorem dX8_init_86 : decode cX8_init 86 = .ok (.newarray .int, 2) := by decide +kernel
theorem dX8_init_88 : decode cX8_init 88 = .ok (.putfield 41, 3) := by decide +kernel
theorem dX8_init_91 : decode cX8_init 91 = .ok (.aload_n 0, 1) := by decide +kernel
theorem dX8_init_92 : decode cX8_init 92 = .ok (.bipush 61, 2) := by decide +kernel
theorem dX8_init_94 : decode cX8_init 94 = .ok (.newarray .int, 2) := by decide +kernel
theorem dX8_init_96 : decode cX8_init 96 = .ok (.putfield 44, 3) := by decide +kernel
theorem dX8_init_99 : decode cX8_init 99 = .ok (.iconst 0, 1) := by decide +kernel
theorem dX8_init_100 : decode cX8_init 100 = .ok (.istore_n 1, 1) := by decide +kernel
theorem dX8_init_101 : decode cX8_init 101 = .ok (.iload_n 1, 1) := by decide +kernel
theorem dX8_init_102 : decode cX8_init 102 = .ok (.iconst 4, 1) := by decide +kernel
theorem dX8_init_103 : decode cX8_init 103 = .ok (.if_icmp .ge 17, 3) := by decide +kernel
theorem dX8_init_106 : decode cX8_init 106 = .ok (.aload_n 0, 1) := by decide +kernel
theorem dX8_init_107 : decode cX8_init 107 = .ok (.getfield 35, 3) := by decide +kernel
theorem dX8_init_110 : decode cX8_init 110 = .ok (.iload_n 1, 1) := by decide +kernel
theorem dX8_init_111 : decode cX8_init 111 = .ok (.bipush (-4), 2) := by decide +kernel
theorem dX8_init_113 : decode cX8_init 113 = .ok (.iastore, 1) := by decide +kernel
theorem dX8_init_114 : decode cX8_init 114 = .ok (.iinc 1 1, 3) := by decide +kernel
theorem dX8_init_117 : decode cX8_init 117 = .ok (.goto (-16), 3) := by decide +kernel
theorem dX8_init_120 : decode cX8_init 120 = .ok (.aload_n 0, 1) := by decide +kernel
theorem dX8_init_121 : decode cX8_init 121 = .ok (.invokevirtual 47, 3) := by decide +kernel
theorem dX8_init_124 : decode cX8_init 124 = .ok (.aload_n 0, 1) := by decide +kernel
theorem dX8_init_125 : decode cX8_init 125 = .ok (.invokevirtual 50, 3) := by decide +kernel
theorem dX8_init_128 : decode cX8_init 128 = .ok (.return_, 1) := by decide +kernel
theorem dX8_in_0 : decode cX8_in 0 = .ok (.lload_n 0, 1) := by decide +kernel
theorem dX8_in_1 : decode cX8_in 1 = .ok (.lload_n 2, 1) := by decide +kernel
theorem dX8_in_2 : decode cX8_in 2 = .ok (.lcmp, 1) := by decide +kernel
theorem dX8_in_3 : decode cX8_in 3 = .ok (.ifCond .lt 14, 3) := by decide +kernel
theorem dX8_in_6 : decode cX8_in 6 = .ok (.lload_n 0, 1) := by decide +kernel
theorem dX8_in_7 : decode cX8_in 7 = .ok (.lload 4, 2) := by decide +kernel
theorem dX8_in_9 : decode cX8_in 9 = .ok (.lcmp, 1) := by decide +kernel
theorem dX8_in_10 : decode cX8_in 10 = .ok (.ifCond .gt 7, 3) := by decide +kernel
theorem dX8_in_13 : decode cX8_in 13 = .ok (.iconst 1, 1) := by decide +kernel
theorem dX8_in_14 : decode cX8_in 14 = .ok (.goto 4, 3) := by decide +kernel
theorem dX8_in_17 : decode cX8_in 17 = .ok (.iconst 0, 1) := by decide +kernel
theorem dX8_in_18 : decode cX8_in 18 = .ok (.ireturn, 1) := by decide +kernel
theorem dX8_flag_0 : decode cX8_flag 0 = .ok (.iload_n 0, 1) := by decide +kernel
theorem dX8_flag_1 : decode cX8_flag 1 = .ok (.ifCond .eq 7, 3) := by decide +kernel
theorem dX8_flag_4 : decode cX8_flag 4 = .ok (.iconst 1, 1) := by decide +kernel
theorem dX8_flag_5 : decode cX8_flag 5 = .ok (.goto 4, 3) := by decide +kernel
theorem dX8_flag_8 : decode cX8_flag 8 = .ok (.iconst 0, 1) := by decide +kernel
theorem dX8_flag_9 : decode cX8_flag 9 = .ok (.ireturn, 1) := by decide +kernel
theorem dX8_lesser_0 : decode cX8_lesser 0 = .ok (.iload_n 0, 1) := by decide +kernel
theorem dX8_lesser_1 : decode cX8_lesser 1 = .ok (.iload_n 1, 1) := by decide +kernel
theorem dX8_lesser_2 : decode cX8_lesser 2 = .ok (.if_icmp .ge 7, 3) := by decide +kernel
theorem dX8_lesser_5 : decode cX8_lesser 5 = .ok (.iload_n 0, 1) := by decide +kernel
theorem dX8_lesser_6 : decode cX8_lesser 6 = .ok (.goto 4, 3) := by decide +kernel
theorem dX8_lesser_9 : decode cX8_lesser 9 = .ok (.iload_n 1, 1) := by decide +kernel
theorem dX8_lesser_10 : decode cX8_lesser 10 = .ok (.ireturn, 1) := by decide +kernel
theorem dX8_firstDraft_0 : decode cX8_firstDraft 0 = .ok (.iconst 0, 1) := by decide +kernel
theorem dX8_firstDraft_1 : decode cX8_firstDraft 1 = .ok (.istore_n 1, 1) := by decide +kernel
theorem dX8_firstDraft_2 : decode cX8_firstDraft 2 = .ok (.iload_n 1, 1) := by decide +kernel
theorem dX8_firstDraft_3 : decode cX8_firstDraft 3 = .ok (.bipush 61, 2) := by decide +kernel
theorem dX8_firstDraft_5 : decode cX8_firstDraft 5 = .ok (.if_icmp .ge 16, 3) := by decide +kernel
theorem dX8_firstDraft_8 : decode cX8_firstDraft 8 = .ok (.aload_n 0, 1) := by decide +kernel
theorem dX8_firstDraft_9 : decode cX8_firstDraft 9 = .ok (.getfield 20, 3) := by decide +kernel
theorem dX8_firstDraft_12 : decode cX8_firstDraft 12 = .ok (.iload_n 1, 1) := by decide +kernel
theorem dX8_firstDraft_13 : decode cX8_firstDraft 13 = .ok (.iconst 0, 1) := by decide +kernel
theorem dX8_firstDraft_14 : decode cX8_firstDraft 14 = .ok (.iastore, 1) := by decide +kernel
theorem dX8_firstDraft_15 : decode cX8_firstDraft 15 = .ok (.iinc 1 1, 3) := by decide +kernel
theorem dX8_firstDraft_18 : decode cX8_firstDraft 18 = .ok (.goto (-16), 3) := by decide +kernel
theorem dX8_firstDraft_21 : decode cX8_firstDraft 21 = .ok (.aload_n 0, 1) := by decide +kernel
theorem dX8_firstDraft_22 : decode cX8_firstDraft 22 = .ok (.iconst 0, 1) := by decide +kernel
theorem dX8_firstDraft_23 : decode cX8_firstDraft 23 = .ok (.putfield 53, 3) := by decide +kernel
theorem dX8_firstDraft_26 : decode cX8_firstDraft 26 = .ok (.aload_n 0, 1) := by decide +kernel
theorem dX8_firstDraft_27 : decode cX8_firstDraft 27 = .ok (.iconst 0, 1) := by decide +kernel
theorem dX8_firstDraft_28 : decode cX8_firstDraft 28 = .ok (.putfield 57, 3) := by decide +kernel
theorem dX8_firstDraft_31 : decode cX8_firstDraft 31 = .ok (.aload_n 0, 1) := by decide +kernel
theorem dX8_firstDraft_32 : decode cX8_firstDraft 32 = .ok (.iconst 0, 1) := by decide +kernel
theorem dX8_firstDraft_33 : decode cX8_firstDraft 33 = .ok (.putfield 61, 3) := by decide +kernel
theorem dX8_firstDraft_36 : decode cX8_firstDraft 36 = .ok (.aload_n 0, 1) := by decide +kernel
theorem dX8_firstDraft_37 : decode cX8_firstDraft 37 = .ok (.bipush (-4), 2) := by decide +kernel
theorem dX8_firstDraft_39 : decode cX8_firstDraft 39 = .ok (.putfield 64, 3) := by decide +kernel
theorem dX8_firstDraft_42 : decode cX8_firstDraft 42 = .ok (.return_, 1) := by decide +kernel
theorem dX8_keepDraft_0 : decode cX8_keepDraft 0 = .ok (.iconst 0, 1) := by decide +kernel
theorem dX8_keepDraft_1 : decode cX8_keepDraft 1 = .ok (.istore_n 1, 1) := by decide +kernel
theorem dX8_keepDraft_2 : decode cX8_keepDraft 2 = .ok (.iload_n 1, 1) := by decide +kernel
theorem dX8_keepDraft_3 : decode cX8_keepDraft 3 = .ok (.bipush 61, 2) := by decide +kernel
theorem dX8_keepDraft_5 : decode cX8_keepDraft 5 = .ok (.if_icmp .ge 21, 3) := by decide +kernel
theorem dX8_keepDraft_8 : decode cX8_keepDraft 8 = .ok (.aload_n 0, 1) := by decide +kernel
theorem dX8_keepDraft_9 : decode cX8_keepDraft 9 = .ok (.getfield 7, 3) := by decide +kernel
theorem dX8_keepDraft_12 : decode cX8_keepDraft 12 = .ok (.iload_n 1, 1) := by decide +kernel
theorem dX8_keepDraft_13 : decode cX8_keepDraft 13 = .ok (.aload_n 0, 1) := by decide +kernel
theorem dX8_keepDraft_14 : decode cX8_keepDraft 14 = .ok (.getfield 20, 3) := by decide +kernel
theorem dX8_keepDraft_17 : decode cX8_keepDraft 17 = .ok (.iload_n 1, 1) := by decide +kernel
theorem dX8_keepDraft_18 : decode cX8_keepDraft 18 = .ok (.iaload, 1) := by decide +kernel
theorem dX8_keepDraft_19 : decode cX8_keepDraft 19 = .ok (.iastore, 1) := by decide +kernel
theorem dX8_keepDraft_20 : decode cX8_keepDraft 20 = .ok (.iinc 1 1, 3) := by decide +kernel
theorem dX8_keepDraft_23 : decode cX8_keepDraft 23 = .ok (.goto (-21), 3) := by decide +kernel
theorem dX8_keepDraft_26 : decode cX8_keepDraft 26 = .ok (.aload_n 0, 1) := by decide +kernel
theorem dX8_keepDraft_27 : decode cX8_keepDraft 27 = .ok (.aload_n 0, 1) := by decide +kernel
theorem dX8_keepDraft_28 : decode cX8_keepDraft 28 = .ok (.getfield 53, 3) := by decide +kernel
theorem dX8_keepDraft_31 : decode cX8_keepDraft 31 = .ok (.putfield 67, 3) := by decide +kernel
theorem dX8_keepDraft_34 : decode cX8_keepDraft 34 = .ok (.aload_n 0, 1) := by decide +kernel
theorem dX8_keepDraft_35 : decode cX8_keepDraft 35 = .ok (.getfield 16, 3) := by decide +kernel
theorem dX8_keepDraft_38 : decode cX8_keepDraft 38 = .ok (.iconst 0, 1) := by decide +kernel
theorem dX8_keepDraft_39 : decode cX8_keepDraft 39 = .ok (.iconst 0, 1) := by decide +kernel
theorem dX8_keepDraft_40 : decode cX8_keepDraft 40 = .ok (.bastore, 1) := by decide +kernel
theorem dX8_keepDraft_41 : decode cX8_keepDraft 41 = .ok (.aload_n 0, 1) := by decide +kernel
theorem dX8_keepDraft_42 : decode cX8_keepDraft 42 = .ok (.getfield 16, 3) := by decide +kernel
theorem dX8_keepDraft_45 : decode cX8_keepDraft 45 = .ok (.iconst 1, 1) := by decide +kernel
theorem dX8_keepDraft_46 : decode cX8_keepDraft 46 = .ok (.iconst 0, 1) := by decide +kernel
theorem dX8_keepDraft_47 : decode cX8_keepDraft 47 = .ok (.bastore, 1) := by decide +kernel
theorem dX8_keepDraft_48 : decode cX8_keepDraft 48 = .ok (.return_, 1) := by decide +kernel
set_option maxRecDepth 20000 in
theorem ggX8_feed_X8_in : GoodIn wsX8_feed wsX8_in := goodIn_r _ [7] (by decide +kernel) (by decide +kernel)
set_option maxRecDepth 20000 in
theorem gX8_feed_X8_in : GoodIn wsX8_feed (va_wsS RX8 72 yX8_in wsX8_in) := goodIn_app (goodIn_of _ (by decide +kernel)) ggX8_feed_X8_in
theorem dX8_feed_0 : decode cX8_feed 0 = .ok (.iload_n 1, 1) := by decide +kernel
theorem dX8_feed_1 : decode cX8_feed 1 = .ok (.i2l, 1) := by decide +kernel
theorem dX8_feed_2 : decode cX8_feed 2 = .ok (.lconst 0, 1) := by decide +kernel
theorem dX8_feed_3 : decode cX8_feed 3 = .ok (.ldc2_w 70, 3) := by decide +kernel
theorem dX8_feed_6 : decode cX8_feed 6 = .ok (.invokestatic 72, 3) := by decide +kernel
theorem dX8_feed_9 : decode cX8_feed 9 = .ok (.ifCond .ne 5, 3) := by decide +kernel
theorem dX8_feed_12 : decode cX8_feed 12 = .ok (.iconst (-1), 1) := by decide +kernel
theorem dX8_feed_13 : decode cX8_feed 13 = .ok (.ireturn, 1) := by decide +kernel
theorem dX8_feed_14 : decode cX8_feed 14 = .ok (.aload_n 0, 1) := by decide +kernel
theorem dX8_feed_15 : decode cX8_feed 15 = .ok (.getfield 76, 3) := by decide +kernel
theorem dX8_feed_18 : decode cX8_feed 18 = .ok (.sipush 160, 3) := by decide +kernel
theorem dX8_feed_21 : decode cX8_feed 21 = .ok (.if_icmp .ne 6, 3) := by decide +kernel
theorem dX8_feed_24 : decode cX8_feed 24 = .ok (.bipush (-3), 2) := by decide +kernel
theorem dX8_feed_26 : decode cX8_feed 26 = .ok (.ireturn, 1) := by decide +kernel
theorem dX8_feed_27 : decode cX8_feed 27 = .ok (.aload_n 0, 1) := by decide +kernel
theorem dX8_feed_28 : decode cX8_feed 28 = .ok (.getfield 23, 3) := by decide +kernel
theorem dX8_feed_31 : decode cX8_feed 31 = .ok (.aload_n 0, 1) := by decide +kernel
theorem dX8_feed_32 : decode cX8_feed 32 = .ok (.getfield 76, 3) := by decide +kernel
theorem dX8_feed_35 : decode cX8_feed 35 = .ok (.iload_n 1, 1) := by decide +kernel
theorem dX8_feed_36 : decode cX8_feed 36 = .ok (.iastore, 1) := by decide +kernel
theorem dX8_feed_37 : decode cX8_feed 37 = .ok (.aload_n 0, 1) := by decide +kernel
theorem dX8_feed_38 : decode cX8_feed 38 = .ok (.dup, 1) := by decide +kernel
theorem dX8_feed_39 : decode cX8_feed 39 = .ok (.getfield 76, 3) := by decide +kernel
theorem dX8_feed_42 : decode cX8_feed 42 = .ok (.iconst 1, 1) := by decide +kernel
theorem dX8_feed_43 : decode cX8_feed 43 = .ok (.iadd, 1) := by decide +kernel
theorem dX8_feed_44 : decode cX8_feed 44 = .ok (.putfield 76, 3) := by decide +kernel
theorem dX8_feed_47 : decode cX8_feed 47 = .ok (.aload_n 0, 1) := by decide +kernel
theorem dX8_feed_48 : decode cX8_feed 48 = .ok (.getfield 76, 3) := by decide +kernel
theorem dX8_feed_51 : decode cX8_feed 51 = .ok (.ireturn, 1) := by decide +kernel
set_option maxRecDepth 20000 in
theorem ggX8_end_X8_in : GoodIn wsX8_end wsX8_in := goodIn_r _ [5] (by decide +kernel) (by decide +kernel)
set_option maxRecDepth 20000 in
theorem gX8_end_X8_in : GoodIn wsX8_end (va_wsS RX8 72 yX8_in wsX8_in) := goodIn_app (goodIn_of _ (by decide +kernel)) ggX8_end_X8_in
theorem dX8_end_0 : decode cX8_end 0 = .ok (.iload_n 1, 1) := by decide +kernel
theorem dX8_end_1 : decode cX8_end 1 = .ok (.i2l, 1) := by decide +kernel
theorem dX8_end_2 : decode cX8_end 2 = .ok (.lconst 0, 1) := by decide +kernel
theorem dX8_end_3 : decode cX8_end 3 = .ok (.aload_n 0, 1) := by decide +kernel
theorem dX8_end_4 : decode cX8_end 4 = .ok (.getfield 76, 3) := by decide +kernel
theorem dX8_end_7 : decode cX8_end 7 = .ok (.i2l, 1) := by decide +kernel
theorem dX8_end_8 : decode cX8_end 8 = .ok (.invokestatic 72, 3) := by decide +kernel
theorem dX8_end_11 : decode cX8_end 11 = .ok (.ifCond .ne 5, 3) := by decide +kernel
theorem dX8_end_14 : decode cX8_end 14 = .ok (.iconst (-1), 1) := by decide +kernel
theorem dX8_end_15 : decode cX8_end 15 = .ok (.ireturn, 1) := by decide +kernel
theorem dX8_end_16 : decode cX8_end 16 = .ok (.aload_n 0, 1) := by decide +kernel
theorem dX8_end_17 : decode cX8_end 17 = .ok (.getfield 76, 3) := by decide +kernel
theorem dX8_end_20 : decode cX8_end 20 = .ok (.istore_n 2, 1) := by decide +kernel
theorem dX8_end_21 : decode cX8_end 21 = .ok (.aload_n 0, 1) := by decide +kernel
theorem dX8_end_22 : decode cX8_end 22 = .ok (.iload_n 1, 1) := by decide +kernel
theorem dX8_end_23 : decode cX8_end 23 = .ok (.putfield 76, 3) := by decide +kernel
theorem dX8_end_26 : decode cX8_end 26 = .ok (.iload_n 2, 1) := by decide +kernel
theorem dX8_end_27 : decode cX8_end 27 = .ok (.ireturn, 1) := by decide +kernel
theorem dX8_needs_0 : decode cX8_needs 0 = .ok (.iload_n 1, 1) := by decide +kernel
theorem dX8_needs_1 : decode cX8_needs 1 = .ok (.ifCond .ne 23, 3) := by decide +kernel
theorem dX8_needs_4 : decode cX8_needs 4 = .ok (.aload_n 0, 1) := by decide +kernel
theorem dX8_needs_5 : decode cX8_needs 5 = .ok (.getfield 79, 3) := by decide +kernel
theorem dX8_needs_8 : decode cX8_needs 8 = .ok (.ifCond .ne 16, 3) := by decide +kernel
theorem dX8_needs_11 : decode cX8_needs 11 = .ok (.aload_n 0, 1) := by decide +kernel
theorem dX8_needs_12 : decode cX8_needs 12 = .ok (.iload_n 2, 1) := by decide +kernel
theorem dX8_needs_13 : decode cX8_needs 13 = .ok (.putfield 79, 3) := by decide +kernel
theorem dX8_needs_16 : decode cX8_needs 16 = .ok (.aload_n 0, 1) := by decide +kernel
theorem dX8_needs_17 : decode cX8_needs 17 = .ok (.aload_n 0, 1) := by decide +kernel
theorem dX8_needs_18 : decode cX8_needs 18 = .ok (.getfield 82, 3) := by decide +kernel
theorem dX8_needs_21 : decode cX8_needs 21 = .ok (.putfield 85, 3) := by decide +kernel
theorem dX8_needs_24 : decode cX8_needs 24 = .ok (.return_, 1) := by decide +kernel
theorem dX8_byteAt_0 : decode cX8_byteAt 0 = .ok (.iload_n 1, 1) := by decide +kernel
theorem dX8_byteAt_1 : decode cX8_byteAt 1 = .ok (.aload_n 0, 1) := by decide +kernel
theorem dX8_byteAt_2 : decode cX8_byteAt 2 = .ok (.getfield 76, 3) := by decide +kernel
theorem dX8_byteAt_5 : decode cX8_byteAt 5 = .ok (.if_icmp .ge 12, 3) := by decide +kernel
theorem dX8_byteAt_8 : decode cX8_byteAt 8 = .ok (.aload_n 0, 1) := by decide +kernel
theorem dX8_byteAt_9 : decode cX8_byteAt 9 = .ok (.getfield 23, 3) := by decide +kernel
theorem dX8_byteAt_12 : decode cX8_byteAt 12 = .ok (.iload_n 1, 1) := by decide +kernel
theorem dX8_byteAt_13 : decode cX8_byteAt 13 = .ok (.iaload, 1) := by decide +kernel
theorem dX8_byteAt_14 : decode cX8_byteAt 14 = .ok (.goto 4, 3) := by decide +kernel
theorem dX8_byteAt_17 : decode cX8_byteAt 17 = .ok (.iconst (-1), 1) := by decide +kernel
theorem dX8_byteAt_18 : decode cX8_byteAt 18 = .ok (.ireturn, 1) := by decide +kernel
set_option maxRecDepth 20000 in
theorem ggX8_is_X8_byteAt : GoodIn wsX8_is wsX8_byteAt := goodIn_r _ [7, 8, 9, 10, 11, 12, 13, 14, 15, 16, 17, 18, 19, 20, 21, 22, 23, 24, 25, 26, 27, 28, 29, 30, 31, 32, 33, 34, 35, 36, 37, 38, 39] (by decide +kernel) (by decide +kernel)
set_option maxRecDepth 20000 in
theorem gX8_is_X8_byteAt : GoodIn wsX8_is (wsV RX8 91 RX8 yX8_byteAt wsX8_byteAt) := goodIn_app (goodIn_of _ (by decide +kernel)) ggX8_is_X8_byteAt
theorem dX8_is_0 : decode cX8_is 0 = .ok (.aload_n 0, 1) := by decide +kernel
theorem dX8_is_1 : decode cX8_is 1 = .ok (.getfield 88, 3) := by decide +kernel
theorem dX8_is_4 : decode cX8_is 4 = .ok (.aload_n 0, 1) := by decide +kernel
theorem dX8_is_5 : decode cX8_is 5 = .ok (.getfield 82, 3) := by decide +kernel
theorem dX8_is_8 : decode cX8_is 8 = .ok (.isub, 1) := by decide +kernel
theorem dX8_is_9 : decode cX8_is 9 = .ok (.iload_n 1, 1) := by decide +kernel
theorem dX8_is_10 : decode cX8_is 10 = .ok (.if_icmp .ne 48, 3) := by decide +kernel
theorem dX8_is_13 : decode cX8_is 13 = .ok (.aload_n 0, 1) := by decide +kernel
theorem dX8_is_14 : decode cX8_is 14 = .ok (.aload_n 0, 1) := by decide +kernel
theorem dX8_is_15 : decode cX8_is 15 = .ok (.getfield 82, 3) := by decide +kernel
theorem dX8_is_18 : decode cX8_is 18 = .ok (.invokevirtual 91, 3) := by decide +kernel
theorem dX8_is_21 : decode cX8_is 21 = .ok (.iload_n 2, 1) := by decide +kernel
theorem dX8_is_22 : decode cX8_is 22 = .ok (.if_icmp .ne 36, 3) := by decide +kernel
theorem dX8_is_25 : decode cX8_is 25 = .ok (.aload_n 0, 1) := by decide +kernel
theorem dX8_is_26 : decode cX8_is 26 = .ok (.aload_n 0, 1) := by decide +kernel
theorem dX8_is_27 : decode cX8_is 27 = .ok (.getfield 82, 3) := by decide +kernel
theorem dX8_is_30 : decode cX8_is 30 = .ok (.iconst 1, 1) := by decide +kernel
theorem dX8_is_31 : decode cX8_is 31 = .ok (.iadd, 1) := by decide +kernel
theorem dX8_is_32 : decode cX8_is 32 = .ok (.invokevirtual 91, 3) := by decide +kernel
theorem dX8_is_35 : decode cX8_is 35 = .ok (.iload_n 3, 1) := by decide +kernel
theorem dX8_is_36 : decode cX8_is 36 = .ok (.if_icmp .ne 22, 3) := by decide +kernel
theorem dX8_is_39 : decode cX8_is 39 = .ok (.aload_n 0, 1) := by decide +kernel
theorem dX8_is_40 : decode cX8_is 40 = .ok (.aload_n 0, 1) := by decide +kernel
theorem dX8_is_41 : decode cX8_is 41 = .ok (.getfield 82, 3) := by decide +kernel
theorem dX8_is_44 : decode cX8_is 44 = .ok (.iconst 2, 1) := by decide +kernel
theorem dX8_is_45 : decode cX8_is 45 = .ok (.iadd, 1) := by decide +kernel
theorem dX8_is_46 : decode cX8_is 46 = .ok (.invokevirtual 91, 3) := by decide +kernel
theorem dX8_is_49 : decode cX8_is 49 = .ok (.iload 4, 2) := by decide +kernel
theorem dX8_is_51 : decode cX8_is 51 = .ok (.if_icmp .ne 7, 3) := by decide +kernel
theorem dX8_is_54 : decode cX8_is 54 = .ok (.iconst 1, 1) := by decide +kernel
theorem dX8_is_55 : decode cX8_is 55 = .ok (.goto 4, 3) := by decide +kernel
theorem dX8_is_58 : decode cX8_is 58 = .ok (.iconst 0, 1) := by decide +kernel
theorem dX8_is_59 : decode cX8_is 59 = .ok (.ireturn, 1) := by decide +kernel
set_option maxRecDepth 20000 in
theorem ggX8_ends_X8_byteAt : GoodIn wsX8_ends wsX8_byteAt := goodIn_r _ [6, 7, 8, 9, 10, 11, 12, 13, 14, 15, 16, 17, 18, 19, 20, 21, 22, 23, 24, 25, 26, 27, 28, 29, 30, 31, 32, 33, 34, 35, 36, 37, 38] (by decide +kernel) (by decide +kernel)
set_option maxRecDepth 20000 in
theorem gX8_ends_X8_byteAt : GoodIn wsX8_ends (wsV RX8 91 RX8 yX8_byteAt wsX8_byteAt) := goodIn_app (goodIn_of _ (by decide +kernel)) ggX8_ends_X8_byteAt
theorem dX8_ends_0 : decode cX8_ends 0 = .ok (.aload_n 0, 1) := by decide +kernel
theorem dX8_ends_1 : decode cX8_ends 1 = .ok (.aload_n 0, 1) := by decide +kernel
theorem dX8_ends_2 : decode cX8_ends 2 = .ok (.getfield 82, 3) := by decide +kernel
theorem dX8_ends_5 : decode cX8_ends 5 = .ok (.iconst 3, 1) := by decide +kernel
theorem dX8_ends_6 : decode cX8_ends 6 = .ok (.iadd, 1) := by decide +kernel
theorem dX8_ends_7 : decode cX8_ends 7 = .ok (.invokevirtual 91, 3) := by decide +kernel
theorem dX8_ends_10 : decode cX8_ends 10 = .ok (.iload_n 1, 1) := by decide +kernel
theorem dX8_ends_11 : decode cX8_ends 11 = .ok (.if_icmp .ne 43, 3) := by decide +kernel
theorem dX8_ends_14 : decode cX8_ends 14 = .ok (.iload_n 2, 1) := by decide +kernel
theorem dX8_ends_15 : decode cX8_ends 15 = .ok (.ifCond .eq 17, 3) := by decide +kernel
theorem dX8_ends_18 : decode cX8_ends 18 = .ok (.aload_n 0, 1) := by decide +kernel
theorem dX8_ends_19 : decode cX8_ends 19 = .ok (.aload_n 0, 1) := by decide +kernel
theorem dX8_ends_20 : decode cX8_ends 20 = .ok (.getfield 82, 3) := by decide +kernel
theorem dX8_ends_23 : decode cX8_ends 23 = .ok (.iconst 4, 1) := by decide +kernel
theorem dX8_ends_24 : decode cX8_ends 24 = .ok (.iadd, 1) := by decide +kernel
theorem dX8_ends_25 : decode cX8_ends 25 = .ok (.invokevirtual 91, 3) := by decide +kernel
theorem dX8_ends_28 : decode cX8_ends 28 = .ok (.iload_n 2, 1) := by decide +kernel
theorem dX8_ends_29 : decode cX8_ends 29 = .ok (.if_icmp .ne 25, 3) := by decide +kernel
theorem dX8_ends_32 : decode cX8_ends 32 = .ok (.iload_n 3, 1) := by decide +kernel
theorem dX8_ends_33 : decode cX8_ends 33 = .ok (.ifCond .eq 17, 3) := by decide +kernel
theorem dX8_ends_36 : decode cX8_ends 36 = .ok (.aload_n 0, 1) := by decide +kernel
theorem dX8_ends_37 : decode cX8_ends 37 = .ok (.aload_n 0, 1) := by decide +kernel
theorem dX8_ends_38 : decode cX8_ends 38 = .ok (.getfield 82, 3) := by decide +kernel
theorem dX8_ends_41 : decode cX8_ends 41 = .ok (.iconst 5, 1) := by decide +kernel
theorem dX8_ends_42 : decode cX8_ends 42 = .ok (.iadd, 1) := by decide +kernel
theorem dX8_ends_43 : decode cX8_ends 43 = .ok (.invokevirtual 91, 3) := by decide +kernel
theorem dX8_ends_46 : decode cX8_ends 46 = .ok (.iload_n 3, 1) := by decide +kernel
theorem dX8_ends_47 : decode cX8_ends 47 = .ok (.if_icmp .ne 7, 3) := by decide +kernel
theorem dX8_ends_50 : decode cX8_ends 50 = .ok (.iconst 1, 1) := by decide +kernel
theorem dX8_ends_51 : decode cX8_ends 51 = .ok (.goto 4, 3) := by decide +kernel
theorem dX8_ends_54 : decode cX8_ends 54 = .ok (.iconst 0, 1) := by decide +kernel
theorem dX8_ends_55 : decode cX8_ends 55 = .ok (.ireturn, 1) := by decide +kernel
set_option maxRecDepth 20000 in
theorem ggX8_lineNow_X8_is : GoodIn wsX8_lineNow wsX8_is := goodIn_r _ [5, 6, 7, 8, 9, 10, 4, 11, 12, 13, 18, 19, 20, 21, 22, 23, 24, 25, 26, 27, 28, 29, 30, 31, 32, 33, 34, 35, 36, 37, 38, 39, 40, 41, 42, 43, 44, 45, 46, 47] (by decide +kernel) (by decide +kernel)
set_option maxRecDepth 20000 in
theorem gX8_lineNow_X8_is : GoodIn wsX8_lineNow (wsV RX8 95 RX8 yX8_is wsX8_is) := goodIn_app (goodIn_of _ (by decide +kernel)) ggX8_lineNow_X8_is
set_option maxRecDepth 20000 in
theorem ggX8_lineNow_X8_ends : GoodIn wsX8_lineNow wsX8_ends := goodIn_r _ [17, 7, 8, 9, 10, 4, 11, 12, 13, 18, 19, 20, 21, 22, 23, 24, 25, 26, 27, 28, 29, 30, 31, 32, 33, 34, 35, 36, 37, 38, 39, 40, 41, 42, 43, 44, 45, 46, 47] (by decide +kernel) (by decide +kernel)
set_option maxRecDepth 20000 in
theorem gX8_lineNow_X8_ends : GoodIn wsX8_lineNow (wsV RX8 99 RX8 yX8_ends wsX8_ends) := goodIn_app (goodIn_of _ (by decide +kernel)) ggX8_lineNow_X8_ends
theorem dX8_lineNow_0 : decode cX8_lineNow 0 = .ok (.aload_n 0, 1) := by decide +kernel
theorem dX8_lineNow_1 : decode cX8_lineNow 1 = .ok (.iconst 5, 1) := by decide +kernel
theorem dX8_lineNow_2 : decode cX8_lineNow 2 = .ok (.bipush 112, 2) := by decide +kernel
theorem dX8_lineNow_4 : decode cX8_lineNow 4 = .ok (.bipush 108, 2) := by decide +kernel
theorem dX8_lineNow_6 : decode cX8_lineNow 6 = .ok (.bipush 97, 2) := by decide +kernel
theorem dX8_lineNow_8 : decode cX8_lineNow 8 = .ok (.invokevirtual 95, 3) := by decide +kernel
theorem dX8_lineNow_11 : decode cX8_lineNow 11 = .ok (.ifCond .eq 17, 3) := by decide +kernel
theorem dX8_lineNow_14 : decode cX8_lineNow 14 = .ok (.aload_n 0, 1) := by decide +kernel
theorem dX8_lineNow_15 : decode cX8_lineNow 15 = .ok (.bipush 105, 2) := by decide +kernel
theorem dX8_lineNow_17 : decode cX8_lineNow 17 = .ok (.bipush 110, 2) := by decide +kernel
theorem dX8_lineNow_19 : decode cX8_lineNow 19 = .ok (.iconst 0, 1) := by decide +kernel
theorem dX8_lineNow_20 : decode cX8_lineNow 20 = .ok (.invokevirtual 99, 3) := by decide +kernel
theorem dX8_lineNow_23 : decode cX8_lineNow 23 = .ok (.ifCond .eq 5, 3) := by decide +kernel
theorem dX8_lineNow_26 : decode cX8_lineNow 26 = .ok (.iconst 0, 1) := by decide +kernel
theorem dX8_lineNow_27 : decode cX8_lineNow 27 = .ok (.ireturn, 1) := by decide +kernel
theorem dX8_lineNow_28 : decode cX8_lineNow 28 = .ok (.aload_n 0, 1) := by decide +kernel
theorem dX8_lineNow_29 : decode cX8_lineNow 29 = .ok (.iconst 5, 1) := by decide +kernel
theorem dX8_lineNow_30 : decode cX8_lineNow 30 = .ok (.bipush 119, 2) := by decide +kernel
theorem dX8_lineNow_32 : decode cX8_lineNow 32 = .ok (.bipush 105, 2) := by decide +kernel
theorem dX8_lineNow_34 : decode cX8_lineNow 34 = .ok (.bipush 100, 2) := by decide +kernel
theorem dX8_lineNow_36 : decode cX8_lineNow 36 = .ok (.invokevirtual 95, 3) := by decide +kernel
theorem dX8_lineNow_39 : decode cX8_lineNow 39 = .ok (.ifCond .eq 17, 3) := by decide +kernel
theorem dX8_lineNow_42 : decode cX8_lineNow 42 = .ok (.aload_n 0, 1) := by decide +kernel
theorem dX8_lineNow_43 : decode cX8_lineNow 43 = .ok (.bipush 111, 2) := by decide +kernel
theorem dX8_lineNow_45 : decode cX8_lineNow 45 = .ok (.bipush 119, 2) := by decide +kernel
theorem dX8_lineNow_47 : decode cX8_lineNow 47 = .ok (.iconst 0, 1) := by decide +kernel
theorem dX8_lineNow_48 : decode cX8_lineNow 48 = .ok (.invokevirtual 99, 3) := by decide +kernel
theorem dX8_lineNow_51 : decode cX8_lineNow 51 = .ok (.ifCond .eq 5, 3) := by decide +kernel
theorem dX8_lineNow_54 : decode cX8_lineNow 54 = .ok (.iconst 1, 1) := by decide +kernel
theorem dX8_lineNow_55 : decode cX8_lineNow 55 = .ok (.ireturn, 1) := by decide +kernel
theorem dX8_lineNow_56 : decode cX8_lineNow 56 = .ok (.aload_n 0, 1) := by decide +kernel
theorem dX8_lineNow_57 : decode cX8_lineNow 57 = .ok (.bipush 6, 2) := by decide +kernel
theorem dX8_lineNow_59 : decode cX8_lineNow 59 = .ok (.bipush 115, 2) := by decide +kernel
theorem dX8_lineNow_61 : decode cX8_lineNow 61 = .ok (.bipush 113, 2) := by decide +kernel
theorem dX8_lineNow_63 : decode cX8_lineNow 63 = .ok (.bipush 117, 2) := by decide +kernel
theorem dX8_lineNow_65 : decode cX8_lineNow 65 = .ok (.invokevirtual 95, 3) := by decide +kernel
theorem dX8_lineNow_68 : decode cX8_lineNow 68 = .ok (.ifCond .eq 18, 3) := by decide +kernel
theorem dX8_lineNow_71 : decode cX8_lineNow 71 = .ok (.aload_n 0, 1) := by decide +kernel
theorem dX8_lineNow_72 : decode cX8_lineNow 72 = .ok (.bipush 105, 2) := by decide +kernel
theorem dX8_lineNow_74 : decode cX8_lineNow 74 = .ok (.bipush 114, 2) := by decide +kernel
theorem dX8_lineNow_76 : decode cX8_lineNow 76 = .ok (.bipush 101, 2) := by decide +kernel
theorem dX8_lineNow_78 : decode cX8_lineNow 78 = .ok (.invokevirtual 99, 3) := by decide +kernel
theorem dX8_lineNow_81 : decode cX8_lineNow 81 = .ok (.ifCond .eq 5, 3) := by decide +kernel
theorem dX8_lineNow_84 : decode cX8_lineNow 84 = .ok (.iconst 2, 1) := by decide +kernel
theorem dX8_lineNow_85 : decode cX8_lineNow 85 = .ok (.ireturn, 1) := by decide +kernel
theorem dX8_lineNow_86 : decode cX8_lineNow 86 = .ok (.aload_n 0, 1) := by decide +kernel
theorem dX8_lineNow_87 : decode cX8_lineNow 87 = .ok (.iconst 5, 1) := by decide +kernel
theorem dX8_lineNow_88 : decode cX8_lineNow 88 = .ok (.bipush 109, 2) := by decide +kernel
theorem dX8_lineNow_90 : decode cX8_lineNow 90 = .ok (.bipush 105, 2) := by decide +kernel
theorem dX8_lineNow_92 : decode cX8_lineNow 92 = .ok (.bipush 115, 2) := by decide +kernel
theorem dX8_lineNow_94 : decode cX8_lineNow 94 = .ok (.invokevirtual 95, 3) := by decide +kernel
theorem dX8_lineNow_97 : decode cX8_lineNow 97 = .ok (.ifCond .eq 17, 3) := by decide +kernel
theorem dX8_lineNow_100 : decode cX8_lineNow 100 = .ok (.aload_n 0, 1) := by decide +kernel
theorem dX8_lineNow_101 : decode cX8_lineNow 101 = .ok (.bipush 101, 2) := by decide +kernel
theorem dX8_lineNow_103 : decode cX8_lineNow 103 = .ok (.bipush 114, 2) := by decide +kernel
theorem dX8_lineNow_105 : decode cX8_lineNow 105 = .ok (.iconst 0, 1) := by decide +kernel
theorem dX8_lineNow_106 : decode cX8_lineNow 106 = .ok (.invokevirtual 99, 3) := by decide +kernel
theorem dX8_lineNow_109 : decode cX8_lineNow 109 = .ok (.ifCond .eq 5, 3) := by decide +kernel
theorem dX8_lineNow_112 : decode cX8_lineNow 112 = .ok (.iconst 3, 1) := by decide +kernel
theorem dX8_lineNow_113 : decode cX8_lineNow 113 = .ok (.ireturn, 1) := by decide +kernel
theorem dX8_lineNow_114 : decode cX8_lineNow 114 = .ok (.aload_n 0, 1) := by decide +kernel
theorem dX8_lineNow_115 : decode cX8_lineNow 115 = .ok (.iconst 4, 1) := by decide +kernel
theorem dX8_lineNow_116 : decode cX8_lineNow 116 = .ok (.bipush 111, 2) := by decide +kernel
theorem dX8_lineNow_118 : decode cX8_lineNow 118 = .ok (.bipush 119, 2) := by decide +kernel
theorem dX8_lineNow_120 : decode cX8_lineNow 120 = .ok (.bipush 101, 2) := by decide +kernel
theorem dX8_lineNow_122 : decode cX8_lineNow 122 = .ok (.invokevirtual 95, 3) := by decide +kernel
theorem dX8_lineNow_125 : decode cX8_lineNow 125 = .ok (.ifCond .eq 18, 3) := by decide +kernel
theorem dX8_lineNow_128 : decode cX8_lineNow 128 = .ok (.aload_n 0, 1) := by decide +kernel
theorem dX8_lineNow_129 : decode cX8_lineNow 129 = .ok (.bipush 115, 2) := by decide +kernel
theorem dX8_lineNow_131 : decode cX8_lineNow 131 = .ok (.iconst 0, 1) := by decide +kernel
theorem dX8_lineNow_132 : decode cX8_lineNow 132 = .ok (.iconst 0, 1) := by decide +kernel
theorem dX8_lineNow_133 : decode cX8_lineNow 133 = .ok (.invokevirtual 99, 3) := by decide +kernel
theorem dX8_lineNow_136 : decode cX8_lineNow 136 = .ok (.ifCond .eq 7, 3) := by decide +kernel
theorem dX8_lineNow_139 : decode cX8_lineNow 139 = .ok (.iconst 4, 1) := by decide +kernel
theorem dX8_lineNow_140 : decode cX8_lineNow 140 = .ok (.goto 23, 3) := by decide +kernel
theorem dX8_lineNow_143 : decode cX8_lineNow 143 = .ok (.aload_n 0, 1) := by decide +kernel
theorem dX8_lineNow_144 : decode cX8_lineNow 144 = .ok (.iconst 3, 1) := by decide +kernel
theorem dX8_lineNow_145 : decode cX8_lineNow 145 = .ok (.bipush 100, 2) := by decide +kernel
theorem dX8_lineNow_147 : decode cX8_lineNow 147 = .ok (.bipush 114, 2) := by decide +kernel
theorem dX8_lineNow_149 : decode cX8_lineNow 149 = .ok (.bipush 121, 2) := by decide +kernel
theorem dX8_lineNow_151 : decode cX8_lineNow 151 = .ok (.invokevirtual 95, 3) := by decide +kernel
theorem dX8_lineNow_154 : decode cX8_lineNow 154 = .ok (.ifCond .eq 7, 3) := by decide +kernel
theorem dX8_lineNow_157 : decode cX8_lineNow 157 = .ok (.iconst 5, 1) := by decide +kernel
theorem dX8_lineNow_158 : decode cX8_lineNow 158 = .ok (.goto 5, 3) := by decide +kernel
theorem dX8_lineNow_161 : decode cX8_lineNow 161 = .ok (.bipush (-4), 2) := by decide +kernel
theorem dX8_lineNow_163 : decode cX8_lineNow 163 = .ok (.ireturn, 1) := by decide +kernel
set_option maxRecDepth 20000 in
theorem ggX8_takes_X8_byteAt : GoodIn wsX8_takes wsX8_byteAt := goodIn_r _ [14, 15, 16, 25, 26, 27, 28, 29, 30, 31, 32, 33, 34, 35, 36, 37, 38, 39, 40, 41, 42, 43, 44, 45, 46, 47, 48, 49, 50, 51, 52, 53, 54] (by decide +kernel) (by decide +kernel)
set_option maxRecDepth 20000 in
theorem gX8_takes_X8_byteAt : GoodIn wsX8_takes (wsV RX8 91 RX8 yX8_byteAt wsX8_byteAt) := goodIn_app (goodIn_of _ (by decide +kernel)) ggX8_takes_X8_byteAt
set_option maxRecDepth 20000 in
theorem ggX8_takes_X8_in : GoodIn wsX8_takes wsX8_in := goodIn_r _ [19] (by decide +kernel) (by decide +kernel)
set_option maxRecDepth 20000 in
theorem gX8_takes_X8_in : GoodIn wsX8_takes (va_wsS RX8 72 yX8_in wsX8_in) := goodIn_app (goodIn_of _ (by decide +kernel)) ggX8_takes_X8_in
set_option maxRecDepth 20000 in
theorem ggX8_takes_X8_needs : GoodIn wsX8_takes wsX8_needs := goodIn_r _ [23, 1, 3, 24, 25, 26, 27, 28, 29, 30, 31, 32, 33, 34, 35, 36, 37, 38, 39, 40, 41, 42, 43, 44, 45, 46, 47, 48, 49, 50, 51, 52, 53, 54] (by decide +kernel) (by decide +kernel)
set_option maxRecDepth 20000 in
theorem gX8_takes_X8_needs : GoodIn wsX8_takes (wsV RX8 117 RX8 yX8_needs wsX8_needs) := goodIn_app (goodIn_of _ (by decide +kernel)) ggX8_takes_X8_needs
theorem dX8_takes_0 : decode cX8_takes 0 = .ok (.aload_n 0, 1) := by decide +kernel
theorem dX8_takes_1 : decode cX8_takes 1 = .ok (.getfield 79, 3) := by decide +kernel
theorem dX8_takes_4 : decode cX8_takes 4 = .ok (.ifCond .le 4, 3) := by decide +kernel
theorem dX8_takes_7 : decode cX8_takes 7 = .ok (.return_, 1) := by decide +kernel
